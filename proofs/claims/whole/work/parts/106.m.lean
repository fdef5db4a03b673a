theorem dX12_fars_0 : decode cX12_fars 0 = .ok (.iconst 0, 1) := by decide +kernel
theorem dX12_fars_1 : decode cX12_fars 1 = .ok (.istore_n 2, 1) := by decide +kernel
theorem dX12_fars_2 : decode cX12_fars 2 = .ok (.iload_n 2, 1) := by decide +kernel
theorem dX12_fars_3 : decode cX12_fars 3 = .ok (.aload_n 0, 1) := by decide +kernel
theorem dX12_fars_4 : decode cX12_fars 4 = .ok (.invokevirtual 337, 3) := by decide +kernel
theorem dX12_fars_7 : decode cX12_fars 7 = .ok (.if_icmp .ge 16, 3) := by decide +kernel
theorem dX12_fars_10 : decode cX12_fars 10 = .ok (.aload_n 0, 1) := by decide +kernel
theorem dX12_fars_11 : decode cX12_fars 11 = .ok (.getfield 50, 3) := by decide +kernel
theorem dX12_fars_14 : decode cX12_fars 14 = .ok (.iload_n 2, 1) := by decide +kernel
theorem dX12_fars_15 : decode cX12_fars 15 = .ok (.iconst (-1), 1) := by decide +kernel
theorem dX12_fars_16 : decode cX12_fars 16 = .ok (.iastore, 1) := by decide +kernel
theorem dX12_fars_17 : decode cX12_fars 17 = .ok (.iinc 2 1, 3) := by decide +kernel
theorem dX12_fars_20 : decode cX12_fars 20 = .ok (.goto (-18), 3) := by decide +kernel
theorem dX12_fars_23 : decode cX12_fars 23 = .ok (.aload_n 0, 1) := by decide +kernel
theorem dX12_fars_24 : decode cX12_fars 24 = .ok (.getfield 46, 3) := by decide +kernel
theorem dX12_fars_27 : decode cX12_fars 27 = .ok (.iload_n 1, 1) := by decide +kernel
theorem dX12_fars_28 : decode cX12_fars 28 = .ok (.baload, 1) := by decide +kernel
theorem dX12_fars_29 : decode cX12_fars 29 = .ok (.ifCond .ne 4, 3) := by decide +kernel
theorem dX12_fars_32 : decode cX12_fars 32 = .ok (.return_, 1) := by decide +kernel
theorem dX12_fars_33 : decode cX12_fars 33 = .ok (.aload_n 0, 1) := by decide +kernel
theorem dX12_fars_34 : decode cX12_fars 34 = .ok (.getfield 50, 3) := by decide +kernel
theorem dX12_fars_37 : decode cX12_fars 37 = .ok (.iload_n 1, 1) := by decide +kernel
theorem dX12_fars_38 : decode cX12_fars 38 = .ok (.iconst 0, 1) := by decide +kernel
theorem dX12_fars_39 : decode cX12_fars 39 = .ok (.iastore, 1) := by decide +kernel
theorem dX12_fars_40 : decode cX12_fars 40 = .ok (.aload_n 0, 1) := by decide +kernel
theorem dX12_fars_41 : decode cX12_fars 41 = .ok (.getfield 53, 3) := by decide +kernel
theorem dX12_fars_44 : decode cX12_fars 44 = .ok (.iconst 0, 1) := by decide +kernel
theorem dX12_fars_45 : decode cX12_fars 45 = .ok (.iload_n 1, 1) := by decide +kernel
theorem dX12_fars_46 : decode cX12_fars 46 = .ok (.iastore, 1) := by decide +kernel
theorem dX12_fars_47 : decode cX12_fars 47 = .ok (.iconst 1, 1) := by decide +kernel
theorem dX12_fars_48 : decode cX12_fars 48 = .ok (.istore_n 2, 1) := by decide +kernel
theorem dX12_fars_49 : decode cX12_fars 49 = .ok (.iconst 0, 1) := by decide +kernel
theorem dX12_fars_50 : decode cX12_fars 50 = .ok (.istore_n 3, 1) := by decide +kernel
theorem dX12_fars_51 : decode cX12_fars 51 = .ok (.iload_n 3, 1) := by decide +kernel
theorem dX12_fars_52 : decode cX12_fars 52 = .ok (.iload_n 2, 1) := by decide +kernel
theorem dX12_fars_53 : decode cX12_fars 53 = .ok (.if_icmp .ge 115, 3) := by decide +kernel
theorem dX12_fars_56 : decode cX12_fars 56 = .ok (.iconst 0, 1) := by decide +kernel
theorem dX12_fars_57 : decode cX12_fars 57 = .ok (.istore 4, 2) := by decide +kernel
theorem dX12_fars_59 : decode cX12_fars 59 = .ok (.iload 4, 2) := by decide +kernel
theorem dX12_fars_61 : decode cX12_fars 61 = .ok (.aload_n 0, 1) := by decide +kernel
theorem dX12_fars_62 : decode cX12_fars 62 = .ok (.invokevirtual 68, 3) := by decide +kernel
theorem dX12_fars_65 : decode cX12_fars 65 = .ok (.if_icmp .ge 97, 3) := by decide +kernel
theorem dX12_fars_68 : decode cX12_fars 68 = .ok (.iconst 0, 1) := by decide +kernel
theorem dX12_fars_69 : decode cX12_fars 69 = .ok (.istore 5, 2) := by decide +kernel
theorem dX12_fars_71 : decode cX12_fars 71 = .ok (.iload 5, 2) := by decide +kernel
theorem dX12_fars_73 : decode cX12_fars 73 = .ok (.aload_n 0, 1) := by decide +kernel
theorem dX12_fars_74 : decode cX12_fars 74 = .ok (.invokevirtual 60, 3) := by decide +kernel
theorem dX12_fars_77 : decode cX12_fars 77 = .ok (.if_icmp .ge 79, 3) := by decide +kernel
theorem dX12_fars_80 : decode cX12_fars 80 = .ok (.aload_n 0, 1) := by decide +kernel
theorem dX12_fars_81 : decode cX12_fars 81 = .ok (.aload_n 0, 1) := by decide +kernel
theorem dX12_fars_82 : decode cX12_fars 82 = .ok (.getfield 53, 3) := by decide +kernel
theorem dX12_fars_85 : decode cX12_fars 85 = .ok (.iload_n 3, 1) := by decide +kernel
theorem dX12_fars_86 : decode cX12_fars 86 = .ok (.iaload, 1) := by decide +kernel
theorem dX12_fars_87 : decode cX12_fars 87 = .ok (.iload 4, 2) := by decide +kernel
theorem dX12_fars_89 : decode cX12_fars 89 = .ok (.iload 5, 2) := by decide +kernel
theorem dX12_fars_91 : decode cX12_fars 91 = .ok (.invokevirtual 361, 3) := by decide +kernel
theorem dX12_fars_94 : decode cX12_fars 94 = .ok (.istore 6, 2) := by decide +kernel
theorem dX12_fars_96 : decode cX12_fars 96 = .ok (.aload_n 0, 1) := by decide +kernel
theorem dX12_fars_97 : decode cX12_fars 97 = .ok (.getfield 50, 3) := by decide +kernel
theorem dX12_fars_100 : decode cX12_fars 100 = .ok (.iload 6, 2) := by decide +kernel
theorem dX12_fars_102 : decode cX12_fars 102 = .ok (.iaload, 1) := by decide +kernel
theorem dX12_fars_103 : decode cX12_fars 103 = .ok (.ifCond .ge 47, 3) := by decide +kernel
theorem dX12_fars_106 : decode cX12_fars 106 = .ok (.aload_n 0, 1) := by decide +kernel
theorem dX12_fars_107 : decode cX12_fars 107 = .ok (.getfield 46, 3) := by decide +kernel
theorem dX12_fars_110 : decode cX12_fars 110 = .ok (.iload 6, 2) := by decide +kernel
theorem dX12_fars_112 : decode cX12_fars 112 = .ok (.baload, 1) := by decide +kernel
theorem dX12_fars_113 : decode cX12_fars 113 = .ok (.ifCond .ne 6, 3) := by decide +kernel
theorem dX12_fars_116 : decode cX12_fars 116 = .ok (.goto 34, 3) := by decide +kernel
theorem dX12_fars_119 : decode cX12_fars 119 = .ok (.aload_n 0, 1) := by decide +kernel
theorem dX12_fars_120 : decode cX12_fars 120 = .ok (.getfield 50, 3) := by decide +kernel
theorem dX12_fars_123 : decode cX12_fars 123 = .ok (.iload 6, 2) := by decide +kernel
theorem dX12_fars_125 : decode cX12_fars 125 = .ok (.aload_n 0, 1) := by decide +kernel
theorem dX12_fars_126 : decode cX12_fars 126 = .ok (.getfield 50, 3) := by decide +kernel
theorem dX12_fars_129 : decode cX12_fars 129 = .ok (.aload_n 0, 1) := by decide +kernel
theorem dX12_fars_130 : decode cX12_fars 130 = .ok (.getfield 53, 3) := by decide +kernel
theorem dX12_fars_133 : decode cX12_fars 133 = .ok (.iload_n 3, 1) := by decide +kernel
theorem dX12_fars_134 : decode cX12_fars 134 = .ok (.iaload, 1) := by decide +kernel
theorem dX12_fars_135 : decode cX12_fars 135 = .ok (.iaload, 1) := by decide +kernel
theorem dX12_fars_136 : decode cX12_fars 136 = .ok (.iconst 1, 1) := by decide +kernel
theorem dX12_fars_137 : decode cX12_fars 137 = .ok (.iadd, 1) := by decide +kernel
theorem dX12_fars_138 : decode cX12_fars 138 = .ok (.iastore, 1) := by decide +kernel
theorem dX12_fars_139 : decode cX12_fars 139 = .ok (.aload_n 0, 1) := by decide +kernel
theorem dX12_fars_140 : decode cX12_fars 140 = .ok (.getfield 53, 3) := by decide +kernel
theorem dX12_fars_143 : decode cX12_fars 143 = .ok (.iload_n 2, 1) := by decide +kernel
theorem dX12_fars_144 : decode cX12_fars 144 = .ok (.iload 6, 2) := by decide +kernel
theorem dX12_fars_146 : decode cX12_fars 146 = .ok (.iastore, 1) := by decide +kernel
theorem dX12_fars_147 : decode cX12_fars 147 = .ok (.iinc 2 1, 3) := by decide +kernel
theorem dX12_fars_150 : decode cX12_fars 150 = .ok (.iinc 5 1, 3) := by decide +kernel
theorem dX12_fars_153 : decode cX12_fars 153 = .ok (.goto (-82), 3) := by decide +kernel
theorem dX12_fars_156 : decode cX12_fars 156 = .ok (.iinc 4 1, 3) := by decide +kernel
theorem dX12_fars_159 : decode cX12_fars 159 = .ok (.goto (-100), 3) := by decide +kernel
theorem dX12_fars_162 : decode cX12_fars 162 = .ok (.iinc 3 1, 3) := by decide +kernel
theorem dX12_fars_165 : decode cX12_fars 165 = .ok (.goto (-114), 3) := by decide +kernel
theorem dX12_fars_168 : decode cX12_fars 168 = .ok (.return_, 1) := by decide +kernel
set_option maxRecDepth 100000 in
def F_X12_fars_l2 (v0 : Nat) (v1 : Int32) (v2 : Int32) (h : Hp) : Option ((Int32 × Hp) ⊕ Hp) :=
  ob (F_X12_many v0 h) fun r2 => gd (decide (kd h v0 = 11)) <| (if r2 ≤ v2 then some (.inr h) else ob (zR h v0 21) fun q4 => gd (decide (kd h q4 = 13)) <| gd (ix v2 (zl h q4)) <| some (.inl (v2 + (1 : Int32), setI h q4 (v2).toNatClampNeg (-1 : Int32))))
set_option maxHeartbeats 4000000 in
set_option maxRecDepth 100000 in
theorem r_X12_fars_l2 (v0 : Nat) (v1 : Int32) (v2 : Int32) (h : Hp) {x : Cx} {o : ((Int32 × Hp) ⊕ Hp)} (e : F_X12_fars_l2 v0 v1 v2 h = some o) (kI : ∀ z, o = .inl z → V M_X12_fars x 2 2 [(0, .ref v0), (1, .int v1), (2, .int z.1)] [] z.2 0 0) (kE23 : ∀ z : Hp, o = .inr z → V M_X12_fars x 2 23 [(0, .ref v0), (1, .int v1)] [] z 0 0) : V M_X12_fars x 2 2 [(0, .ref v0), (1, .int v1), (2, .int v2)] [] h 0 0 := by
  unfold F_X12_fars_l2 at e
  refine V_iload_n (pc := 2) (i := 2) dX12_fars_2 rfl rfl ?_
  refine V_aload_n (pc := 3) (i := 0) dX12_fars_3 rfl rfl ?_
  obtain ⟨r2, g1, e⟩ := ob_some e
  obtain ⟨g3, e⟩ := gd_some e
  refine V_callV (pc := 4) (bc := 0) (bs := 0) (mc := 0) (ms := 0) (st := [.int v2]) (As := []) (a := v0) (h' := h) (r := some (.int r2)) dX12_fars_4 ml_X12_337 (ci := 11) rfl (of_decide_eq_true g3) rfl rfl (Nat.le_of_ble_eq_true rfl) (d' := 1) (by decide) (c_X12_many (l := x.2.1) v0 h g1) ?_
  refine V_icmp_ge (pc := 7) (tgt := 23) dX12_fars_7 (by decide) (fun c8 => ?_) (fun c8 => ?_)
  · rw [if_pos c8] at e
    cases e
    exact V_pick [0, 1] rfl (kE23 h rfl)
  · rw [if_neg c8] at e
    refine V_pick [0, 1, 2] rfl ?_
    refine V_aload_n (pc := 10) (i := 0) dX12_fars_10 rfl rfl ?_
    obtain ⟨q4, g5, e⟩ := ob_some e
    refine V_getR (pc := 11) (ci := 11) (k := 21) (b := q4) dX12_fars_11 fl_X12_50 rfl (of_decide_eq_true g3) g5 ?_
    refine V_iload_n (pc := 14) (i := 2) dX12_fars_14 rfl rfl ?_
    refine V_iconst (pc := 15) (v := (-1 : Int32)) dX12_fars_15 (by decide) ?_
    obtain ⟨g6, e⟩ := gd_some e
    obtain ⟨g7, e⟩ := gd_some e
    refine V_iast (pc := 16) dX12_fars_16 (of_decide_eq_true g6) (ix_in g7) ?_
    refine V_iinc (pc := 17) (i := 2) (u := v2 + (1 : Int32)) (lv' := [(2, .int (v2 + (1 : Int32))), (0, .ref v0), (1, .int v1)]) dX12_fars_17 rfl rfl (by decide) rfl ?_
    refine V_goto (pc := 20) (tgt := 2) dX12_fars_20 (by decide) ?_
    cases e
    exact V_pick [1, 2, 0] rfl (kI (v2 + (1 : Int32), setI h q4 (v2).toNatClampNeg (-1 : Int32)) rfl)
set_option maxRecDepth 100000 in
def F_X12_fars_b150 (v0 : Nat) (v2 : Int32) (v3 : Int32) (v4 : Int32) (v5 : Int32) (h : Hp) : Option ((Int32 × Int32 × Hp) ⊕ (Int32 × Hp)) :=
  some (.inl (v2, v5 + (1 : Int32), h))
set_option maxHeartbeats 4000000 in
set_option maxRecDepth 100000 in
theorem r_X12_fars_b150 (v0 : Nat) (v2 : Int32) (v3 : Int32) (v4 : Int32) (v5 : Int32) (h : Hp) {x : Cx} {o : ((Int32 × Int32 × Hp) ⊕ (Int32 × Hp))} (e : F_X12_fars_b150 v0 v2 v3 v4 v5 h = some o) (kI : ∀ z, o = .inl z → V M_X12_fars x 2 71 [(0, .ref v0), (2, .int z.1), (3, .int v3), (4, .int v4), (5, .int z.2.1)] [] z.2.2 0 0) (kE156 : ∀ z : Int32 × Hp, o = .inr z → V M_X12_fars x 2 156 [(0, .ref v0), (2, .int z.1), (3, .int v3), (4, .int v4)] [] z.2 0 0) : V M_X12_fars x 2 150 [(0, .ref v0), (2, .int v2), (3, .int v3), (4, .int v4), (5, .int v5)] [] h 0 0 := by
  unfold F_X12_fars_b150 at e
  refine V_iinc (pc := 150) (i := 5) (u := v5 + (1 : Int32)) (lv' := [(5, .int (v5 + (1 : Int32))), (0, .ref v0), (2, .int v2), (3, .int v3), (4, .int v4)]) dX12_fars_150 rfl rfl (by decide) rfl ?_
  refine V_goto (pc := 153) (tgt := 71) dX12_fars_153 (by decide) ?_
  cases e
  exact V_pick [1, 2, 3, 4, 0] rfl (kI (v2, v5 + (1 : Int32), h) rfl)
set_option maxRecDepth 100000 in
def F_X12_fars_l71 (v0 : Nat) (v2 : Int32) (v3 : Int32) (v4 : Int32) (v5 : Int32) (h : Hp) : Option ((Int32 × Int32 × Hp) ⊕ (Int32 × Hp)) :=
  ob (F_X12_rooms v0 h) fun r27 => gd (decide (kd h v0 = 11)) <| (if r27 ≤ v5 then some (.inr (v2, h)) else ob (zR h v0 22) fun q29 => gd (decide (kd h q29 = 13)) <| gd (ix v3 (zl h q29)) <| ob (F_X12_sent v0 (zI h q29 (v3).toNatClampNeg) v4 v5 h) fun r34 => ob (zR h v0 21) fun q35 => gd (decide (kd h q35 = 13)) <| gd (ix r34 (zl h q35)) <| (if 0 ≤ (zI h q35 (r34).toNatClampNeg) then F_X12_fars_b150 v0 v2 v3 v4 v5 h else ob (zR h v0 20) fun q39 => gd (decide (kd h q39 = 14)) <| gd (ix r34 (zl h q39)) <| (if (zI h q39 (r34).toNatClampNeg) = 0 then F_X12_fars_b150 v0 v2 v3 v4 v5 h else ob (zR h v0 21) fun q43 => ob (zR h v0 21) fun q45 => ob (zR h v0 22) fun q47 => gd (decide (kd h q47 = 13)) <| gd (ix v3 (zl h q47)) <| gd (decide (kd h q45 = 13)) <| gd (ix (zI h q47 (v3).toNatClampNeg) (zl h q45)) <| gd (decide (kd h q43 = 13)) <| gd (ix r34 (zl h q43)) <| ob (zR (setI h q43 (r34).toNatClampNeg ((zI h q45 (zI h q47 (v3).toNatClampNeg).toNatClampNeg) + (1 : Int32))) v0 22) fun q55 => gd (decide (kd (setI h q43 (r34).toNatClampNeg ((zI h q45 (zI h q47 (v3).toNatClampNeg).toNatClampNeg) + (1 : Int32))) q55 = 13)) <| gd (ix v2 (zl (setI h q43 (r34).toNatClampNeg ((zI h q45 (zI h q47 (v3).toNatClampNeg).toNatClampNeg) + (1 : Int32))) q55)) <| ob (some (setI (setI h q43 (r34).toNatClampNeg ((zI h q45 (zI h q47 (v3).toNatClampNeg).toNatClampNeg) + (1 : Int32))) q55 (v2).toNatClampNeg r34)) fun h59 => F_X12_fars_b150 v0 (v2 + (1 : Int32)) v3 v4 v5 h59)))
set_option maxHeartbeats 4000000 in
set_option maxRecDepth 100000 in
theorem r_X12_fars_l71 (v0 : Nat) (v2 : Int32) (v3 : Int32) (v4 : Int32) (v5 : Int32) (h : Hp) {x : Cx} {o : ((Int32 × Int32 × Hp) ⊕ (Int32 × Hp))} (e : F_X12_fars_l71 v0 v2 v3 v4 v5 h = some o) (kI : ∀ z, o = .inl z → V M_X12_fars x 2 71 [(0, .ref v0), (2, .int z.1), (3, .int v3), (4, .int v4), (5, .int z.2.1)] [] z.2.2 0 0) (kE156 : ∀ z : Int32 × Hp, o = .inr z → V M_X12_fars x 2 156 [(0, .ref v0), (2, .int z.1), (3, .int v3), (4, .int v4)] [] z.2 0 0) : V M_X12_fars x 2 71 [(0, .ref v0), (2, .int v2), (3, .int v3), (4, .int v4), (5, .int v5)] [] h 0 0 := by
  unfold F_X12_fars_l71 at e
  refine V_iload (pc := 71) (i := 5) dX12_fars_71 rfl ?_
  refine V_aload_n (pc := 73) (i := 0) dX12_fars_73 rfl rfl ?_
  obtain ⟨r27, g26, e⟩ := ob_some e
  obtain ⟨g28, e⟩ := gd_some e
  refine V_callV (pc := 74) (bc := 0) (bs := 0) (mc := 0) (ms := 0) (st := [.int v5]) (As := []) (a := v0) (h' := h) (r := some (.int r27)) dX12_fars_74 ml_X12_60 (ci := 11) rfl (of_decide_eq_true g28) rfl rfl (Nat.le_of_ble_eq_true rfl) (d' := 0) (by decide) (c_X12_rooms (l := x.2.1) v0 h g26) ?_
  refine V_icmp_ge (pc := 77) (tgt := 156) dX12_fars_77 (by decide) (fun c71 => ?_) (fun c71 => ?_)
  · rw [if_pos c71] at e
    cases e
    exact V_pick [0, 1, 2, 3] rfl (kE156 (v2, h) rfl)
  · rw [if_neg c71] at e
    refine V_pick [0, 1, 2, 3, 4] rfl ?_
    refine V_aload_n (pc := 80) (i := 0) dX12_fars_80 rfl rfl ?_
    refine V_aload_n (pc := 81) (i := 0) dX12_fars_81 rfl rfl ?_
    obtain ⟨q29, g30, e⟩ := ob_some e
    refine V_getR (pc := 82) (ci := 11) (k := 22) (b := q29) dX12_fars_82 fl_X12_53 rfl (of_decide_eq_true g28) g30 ?_
    refine V_iload_n (pc := 85) (i := 3) dX12_fars_85 rfl rfl ?_
    obtain ⟨g31, e⟩ := gd_some e
    obtain ⟨g32, e⟩ := gd_some e
    refine V_iald (pc := 86) dX12_fars_86 (of_decide_eq_true g31) (ix_in g32) ?_
    refine V_iload (pc := 87) (i := 4) dX12_fars_87 rfl ?_
    refine V_iload (pc := 89) (i := 5) dX12_fars_89 rfl ?_
    obtain ⟨r34, g33, e⟩ := ob_some e
    refine V_callV (pc := 91) (bc := 0) (bs := 0) (mc := 0) (ms := 0) (st := []) (As := [.int (zI h q29 (v3).toNatClampNeg), .int v4, .int v5]) (a := v0) (h' := h) (r := some (.int r34)) dX12_fars_91 ml_X12_361 (ci := 11) rfl (of_decide_eq_true g28) rfl rfl (Nat.le_of_ble_eq_true rfl) (d' := 1) (by decide) (c_X12_sent (l := x.2.1) v0 (zI h q29 (v3).toNatClampNeg) v4 v5 h g33) ?_
    refine V_istore (pc := 94) (i := 6) (lv' := [(6, .int r34), (0, .ref v0), (2, .int v2), (3, .int v3), (4, .int v4), (5, .int v5)]) dX12_fars_94 (by decide) rfl ?_
    refine V_aload_n (pc := 96) (i := 0) dX12_fars_96 rfl rfl ?_
    obtain ⟨q35, g36, e⟩ := ob_some e
    refine V_getR (pc := 97) (ci := 11) (k := 21) (b := q35) dX12_fars_97 fl_X12_50 rfl (of_decide_eq_true g28) g36 ?_
    refine V_iload (pc := 100) (i := 6) dX12_fars_100 rfl ?_
    obtain ⟨g37, e⟩ := gd_some e
    obtain ⟨g38, e⟩ := gd_some e
    refine V_iald (pc := 102) dX12_fars_102 (of_decide_eq_true g37) (ix_in g38) ?_
    refine V_if_ge (pc := 103) (tgt := 150) dX12_fars_103 (by decide) (fun c70 => ?_) (fun c70 => ?_)
    · rw [if_pos c70] at e
      exact V_pick [1, 2, 3, 4, 5] rfl (r_X12_fars_b150 v0 v2 v3 v4 v5 h e kI kE156)
    · rw [if_neg c70] at e
      refine V_pick [1, 2, 3, 4, 5, 0] rfl ?_
      refine V_aload_n (pc := 106) (i := 0) dX12_fars_106 rfl rfl ?_
      obtain ⟨q39, g40, e⟩ := ob_some e
      refine V_getR (pc := 107) (ci := 11) (k := 20) (b := q39) dX12_fars_107 fl_X12_46 rfl (of_decide_eq_true g28) g40 ?_
      refine V_iload (pc := 110) (i := 6) dX12_fars_110 rfl ?_
      obtain ⟨g41, e⟩ := gd_some e
      obtain ⟨g42, e⟩ := gd_some e
      refine V_zald (pc := 112) dX12_fars_112 (of_decide_eq_true g41) (ix_in g42) ?_
      refine V_if_ne (pc := 113) (tgt := 119) dX12_fars_113 (by decide) (fun c69 => ?_) (fun c69 => ?_)
      · rw [if_neg c69] at e
        refine V_pick [0, 1, 2, 3, 4, 5] rfl ?_
        refine V_aload_n (pc := 119) (i := 0) dX12_fars_119 rfl rfl ?_
        obtain ⟨q43, g44, e⟩ := ob_some e
        refine V_getR (pc := 120) (ci := 11) (k := 21) (b := q43) dX12_fars_120 fl_X12_50 rfl (of_decide_eq_true g28) g44 ?_
        refine V_iload (pc := 123) (i := 6) dX12_fars_123 rfl ?_
        refine V_aload_n (pc := 125) (i := 0) dX12_fars_125 rfl rfl ?_
        obtain ⟨q45, g46, e⟩ := ob_some e
        refine V_getR (pc := 126) (ci := 11) (k := 21) (b := q45) dX12_fars_126 fl_X12_50 rfl (of_decide_eq_true g28) g46 ?_
        refine V_aload_n (pc := 129) (i := 0) dX12_fars_129 rfl rfl ?_
        obtain ⟨q47, g48, e⟩ := ob_some e
        refine V_getR (pc := 130) (ci := 11) (k := 22) (b := q47) dX12_fars_130 fl_X12_53 rfl (of_decide_eq_true g28) g48 ?_
        refine V_iload_n (pc := 133) (i := 3) dX12_fars_133 rfl rfl ?_
        obtain ⟨g49, e⟩ := gd_some e
        obtain ⟨g50, e⟩ := gd_some e
        refine V_iald (pc := 134) dX12_fars_134 (of_decide_eq_true g49) (ix_in g50) ?_
        obtain ⟨g51, e⟩ := gd_some e
        obtain ⟨g52, e⟩ := gd_some e
        refine V_iald (pc := 135) dX12_fars_135 (of_decide_eq_true g51) (ix_in g52) ?_
        refine V_iconst (pc := 136) (v := (1 : Int32)) dX12_fars_136 (by decide) ?_
        refine V_iadd (pc := 137) dX12_fars_137 ?_
        obtain ⟨g53, e⟩ := gd_some e
        obtain ⟨g54, e⟩ := gd_some e
        refine V_iast (pc := 138) dX12_fars_138 (of_decide_eq_true g53) (ix_in g54) ?_
        refine V_aload_n (pc := 139) (i := 0) dX12_fars_139 rfl rfl ?_
        obtain ⟨q55, g56, e⟩ := ob_some e
        refine V_getR (pc := 140) (ci := 11) (k := 22) (b := q55) dX12_fars_140 fl_X12_53 rfl (kd_sI (of_decide_eq_true g28)) g56 ?_
        refine V_iload_n (pc := 143) (i := 2) dX12_fars_143 rfl rfl ?_
        refine V_iload (pc := 144) (i := 6) dX12_fars_144 rfl ?_
        obtain ⟨g57, e⟩ := gd_some e
        obtain ⟨g58, e⟩ := gd_some e
        refine V_iast (pc := 146) dX12_fars_146 (of_decide_eq_true g57) (ix_in g58) ?_
        obtain ⟨h59, g60, e⟩ := ob_some e
        refine V_hp (Option.some.inj g60) ?_
        have k61 : kd h59 v0 = 11 := kd_eq (h := (setI (setI h q43 (r34).toNatClampNeg ((zI h q45 (zI h q47 (v3).toNatClampNeg).toNatClampNeg) + (1 : Int32))) q55 (v2).toNatClampNeg r34)) (Option.some.inj g60) (kd_sI (kd_sI (of_decide_eq_true g28)))
        have k62 : kd h59 q29 = 13 := kd_eq (h := (setI (setI h q43 (r34).toNatClampNeg ((zI h q45 (zI h q47 (v3).toNatClampNeg).toNatClampNeg) + (1 : Int32))) q55 (v2).toNatClampNeg r34)) (Option.some.inj g60) (kd_sI (kd_sI (of_decide_eq_true g31)))
        have k63 : kd h59 q35 = 13 := kd_eq (h := (setI (setI h q43 (r34).toNatClampNeg ((zI h q45 (zI h q47 (v3).toNatClampNeg).toNatClampNeg) + (1 : Int32))) q55 (v2).toNatClampNeg r34)) (Option.some.inj g60) (kd_sI (kd_sI (of_decide_eq_true g37)))
        have k64 : kd h59 q39 = 14 := kd_eq (h := (setI (setI h q43 (r34).toNatClampNeg ((zI h q45 (zI h q47 (v3).toNatClampNeg).toNatClampNeg) + (1 : Int32))) q55 (v2).toNatClampNeg r34)) (Option.some.inj g60) (kd_sI (kd_sI (of_decide_eq_true g41)))
        have k65 : kd h59 q47 = 13 := kd_eq (h := (setI (setI h q43 (r34).toNatClampNeg ((zI h q45 (zI h q47 (v3).toNatClampNeg).toNatClampNeg) + (1 : Int32))) q55 (v2).toNatClampNeg r34)) (Option.some.inj g60) (kd_sI (kd_sI (of_decide_eq_true g49)))
        have k66 : kd h59 q45 = 13 := kd_eq (h := (setI (setI h q43 (r34).toNatClampNeg ((zI h q45 (zI h q47 (v3).toNatClampNeg).toNatClampNeg) + (1 : Int32))) q55 (v2).toNatClampNeg r34)) (Option.some.inj g60) (kd_sI (kd_sI (of_decide_eq_true g51)))
        have k67 : kd h59 q43 = 13 := kd_eq (h := (setI (setI h q43 (r34).toNatClampNeg ((zI h q45 (zI h q47 (v3).toNatClampNeg).toNatClampNeg) + (1 : Int32))) q55 (v2).toNatClampNeg r34)) (Option.some.inj g60) (kd_sI (kd_sI (of_decide_eq_true g53)))
        have k68 : kd h59 q55 = 13 := kd_eq (h := (setI (setI h q43 (r34).toNatClampNeg ((zI h q45 (zI h q47 (v3).toNatClampNeg).toNatClampNeg) + (1 : Int32))) q55 (v2).toNatClampNeg r34)) (Option.some.inj g60) (kd_sI (of_decide_eq_true g57))
        refine V_iinc (pc := 147) (i := 2) (u := v2 + (1 : Int32)) (lv' := [(2, .int (v2 + (1 : Int32))), (0, .ref v0), (3, .int v3), (4, .int v4), (5, .int v5), (6, .int r34)]) dX12_fars_147 rfl rfl (by decide) rfl ?_
        exact V_pick [1, 0, 2, 3, 4] rfl (r_X12_fars_b150 v0 (v2 + (1 : Int32)) v3 v4 v5 h59 e kI kE156)
      · rw [if_pos c69] at e
        refine V_pick [0, 1, 2, 3, 4] rfl ?_
        refine V_goto (pc := 116) (tgt := 150) dX12_fars_116 (by decide) ?_
        exact V_pick [0, 1, 2, 3, 4] rfl (r_X12_fars_b150 v0 v2 v3 v4 v5 h e kI kE156)
set_option maxRecDepth 100000 in
def F_X12_fars_l59 (v0 : Nat) (v2 : Int32) (v3 : Int32) (v4 : Int32) (h : Hp) : Option ((Int32 × Int32 × Hp) ⊕ (Int32 × Hp)) :=
  ob (F_X12_guests v0 h) fun r24 => gd (decide (kd h v0 = 11)) <| (if r24 ≤ v4 then some (.inr (v2, h)) else ob (iter (fun z : Int32 × Int32 × Hp => F_X12_fars_l71 v0 z.1 v3 v4 z.2.1 z.2.2) FU (v2, (0 : Int32), h)) (fun z => un2 z fun w72 h73 => some (.inl (w72, v4 + (1 : Int32), h73))))
set_option maxHeartbeats 4000000 in
set_option maxRecDepth 100000 in
theorem r_X12_fars_l59 (v0 : Nat) (v2 : Int32) (v3 : Int32) (v4 : Int32) (h : Hp) {x : Cx} {o : ((Int32 × Int32 × Hp) ⊕ (Int32 × Hp))} (e : F_X12_fars_l59 v0 v2 v3 v4 h = some o) (kI : ∀ z, o = .inl z → V M_X12_fars x 2 59 [(0, .ref v0), (2, .int z.1), (3, .int v3), (4, .int z.2.1)] [] z.2.2 0 0) (kE162 : ∀ z : Int32 × Hp, o = .inr z → V M_X12_fars x 2 162 [(0, .ref v0), (2, .int z.1), (3, .int v3)] [] z.2 0 0) : V M_X12_fars x 2 59 [(0, .ref v0), (2, .int v2), (3, .int v3), (4, .int v4)] [] h 0 0 := by
  unfold F_X12_fars_l59 at e
  refine V_iload (pc := 59) (i := 4) dX12_fars_59 rfl ?_
  refine V_aload_n (pc := 61) (i := 0) dX12_fars_61 rfl rfl ?_
  obtain ⟨r24, g23, e⟩ := ob_some e
  obtain ⟨g25, e⟩ := gd_some e
  refine V_callV (pc := 62) (bc := 0) (bs := 0) (mc := 0) (ms := 0) (st := [.int v4]) (As := []) (a := v0) (h' := h) (r := some (.int r24)) dX12_fars_62 ml_X12_68 (ci := 11) rfl (of_decide_eq_true g25) rfl rfl (Nat.le_of_ble_eq_true rfl) (d' := 0) (by decide) (c_X12_guests (l := x.2.1) v0 h g23) ?_
  refine V_icmp_ge (pc := 65) (tgt := 162) dX12_fars_65 (by decide) (fun c76 => ?_) (fun c76 => ?_)
  · rw [if_pos c76] at e
    cases e
    exact V_pick [0, 1, 2] rfl (kE162 (v2, h) rfl)
  · rw [if_neg c76] at e
    refine V_pick [0, 1, 2, 3] rfl ?_
    refine V_iconst (pc := 68) (v := (0 : Int32)) dX12_fars_68 (by decide) ?_
    refine V_istore (pc := 69) (i := 5) (lv' := [(5, .int (0 : Int32)), (0, .ref v0), (2, .int v2), (3, .int v3), (4, .int v4)]) dX12_fars_69 (by decide) rfl ?_
    refine V_pick [1, 2, 3, 4, 0] rfl ?_
    obtain ⟨y74, g75, e⟩ := ob_some e
    refine iter_V (P := fun z : Int32 × Int32 × Hp => V M_X12_fars x 2 71 [(0, .ref v0), (2, .int z.1), (3, .int v3), (4, .int v4), (5, .int z.2.1)] [] z.2.2 0 0) (E := fun z : Int32 × Hp => V M_X12_fars x 2 156 [(0, .ref v0), (2, .int z.1), (3, .int v3), (4, .int v4)] [] z.2 0 0) (fun z o e9 k1 k2 => r_X12_fars_l71 v0 z.1 v3 v4 z.2.1 z.2.2 e9 (fun z hz9 => k1 z hz9) (fun z hz9 => k2 _ hz9)) _ _ _ g75 ?_
    clear g75
    obtain ⟨w72, h73⟩ := y74
    replace e : (some (.inl (w72, v4 + (1 : Int32), h73))) = some o := e
    show V M_X12_fars x 2 156 [(0, .ref v0), (2, .int w72), (3, .int v3), (4, .int v4)] [] h73 0 0
    refine V_iinc (pc := 156) (i := 4) (u := v4 + (1 : Int32)) (lv' := [(4, .int (v4 + (1 : Int32))), (0, .ref v0), (2, .int w72), (3, .int v3)]) dX12_fars_156 rfl rfl (by decide) rfl ?_
    refine V_goto (pc := 159) (tgt := 59) dX12_fars_159 (by decide) ?_
    cases e
    exact V_pick [1, 2, 3, 0] rfl (kI (w72, v4 + (1 : Int32), h73) rfl)
set_option maxRecDepth 100000 in
def F_X12_fars_l51 (v0 : Nat) (v2 : Int32) (v3 : Int32) (h : Hp) : Option ((Int32 × Int32 × Hp) ⊕ Hp) :=
  (if v2 ≤ v3 then some (.inr h) else ob (iter (fun z : Int32 × Int32 × Hp => F_X12_fars_l59 v0 z.1 v3 z.2.1 z.2.2) FU (v2, (0 : Int32), h)) (fun z => un2 z fun w77 h78 => some (.inl (w77, v3 + (1 : Int32), h78))))
set_option maxHeartbeats 4000000 in
set_option maxRecDepth 100000 in
theorem r_X12_fars_l51 (v0 : Nat) (v2 : Int32) (v3 : Int32) (h : Hp) {x : Cx} {o : ((Int32 × Int32 × Hp) ⊕ Hp)} (e : F_X12_fars_l51 v0 v2 v3 h = some o) (kI : ∀ z, o = .inl z → V M_X12_fars x 2 51 [(0, .ref v0), (2, .int z.1), (3, .int z.2.1)] [] z.2.2 0 0) (kE168 : ∀ z : Hp, o = .inr z → V M_X12_fars x 2 168 [] [] z 0 0) : V M_X12_fars x 2 51 [(0, .ref v0), (2, .int v2), (3, .int v3)] [] h 0 0 := by
  unfold F_X12_fars_l51 at e
  refine V_iload_n (pc := 51) (i := 3) dX12_fars_51 rfl rfl ?_
  refine V_iload_n (pc := 52) (i := 2) dX12_fars_52 rfl rfl ?_
  refine V_icmp_ge (pc := 53) (tgt := 168) dX12_fars_53 (by decide) (fun c81 => ?_) (fun c81 => ?_)
  · rw [if_pos c81] at e
    cases e
    exact V_pick [] rfl (kE168 h rfl)
  · rw [if_neg c81] at e
    refine V_pick [0, 1, 2] rfl ?_
    refine V_iconst (pc := 56) (v := (0 : Int32)) dX12_fars_56 (by decide) ?_
    refine V_istore (pc := 57) (i := 4) (lv' := [(4, .int (0 : Int32)), (0, .ref v0), (2, .int v2), (3, .int v3)]) dX12_fars_57 (by decide) rfl ?_
    refine V_pick [1, 2, 3, 0] rfl ?_
    obtain ⟨y79, g80, e⟩ := ob_some e
    refine iter_V (P := fun z : Int32 × Int32 × Hp => V M_X12_fars x 2 59 [(0, .ref v0), (2, .int z.1), (3, .int v3), (4, .int z.2.1)] [] z.2.2 0 0) (E := fun z : Int32 × Hp => V M_X12_fars x 2 162 [(0, .ref v0), (2, .int z.1), (3, .int v3)] [] z.2 0 0) (fun z o e9 k1 k2 => r_X12_fars_l59 v0 z.1 v3 z.2.1 z.2.2 e9 (fun z hz9 => k1 z hz9) (fun z hz9 => k2 _ hz9)) _ _ _ g80 ?_
    clear g80
    obtain ⟨w77, h78⟩ := y79
    replace e : (some (.inl (w77, v3 + (1 : Int32), h78))) = some o := e
    show V M_X12_fars x 2 162 [(0, .ref v0), (2, .int w77), (3, .int v3)] [] h78 0 0
    refine V_iinc (pc := 162) (i := 3) (u := v3 + (1 : Int32)) (lv' := [(3, .int (v3 + (1 : Int32))), (0, .ref v0), (2, .int w77)]) dX12_fars_162 rfl rfl (by decide) rfl ?_
    refine V_goto (pc := 165) (tgt := 51) dX12_fars_165 (by decide) ?_
    cases e
    exact V_pick [1, 2, 0] rfl (kI (w77, v3 + (1 : Int32), h78) rfl)
set_option maxRecDepth 100000 in
def F_X12_fars_b0 (v0 : Nat) (v1 : Int32) (h : Hp) : Option (Unit × Hp) :=
  ob (iter (fun z : Int32 × Hp => F_X12_fars_l2 v0 v1 z.1 z.2) FU ((0 : Int32), h)) (fun h9 => gd (decide (kd h9 v0 = 11)) <| ob (zR h9 v0 20) fun q11 => gd (decide (kd h9 q11 = 14)) <| gd (ix v1 (zl h9 q11)) <| (if (zI h9 q11 (v1).toNatClampNeg) = 0 then some ((), h9) else ob (zR h9 v0 21) fun q15 => gd (decide (kd h9 q15 = 13)) <| gd (ix v1 (zl h9 q15)) <| ob (zR (setI h9 q15 (v1).toNatClampNeg (0 : Int32)) v0 22) fun q19 => gd (decide (kd (setI h9 q15 (v1).toNatClampNeg (0 : Int32)) q19 = 13)) <| gd (ix (0 : Int32) (zl (setI h9 q15 (v1).toNatClampNeg (0 : Int32)) q19)) <| ob (iter (fun z : Int32 × Int32 × Hp => F_X12_fars_l51 v0 z.1 z.2.1 z.2.2) FU ((1 : Int32), (0 : Int32), setI (setI h9 q15 (v1).toNatClampNeg (0 : Int32)) q19 ((0 : Int32)).toNatClampNeg v1)) (fun h82 => some ((), h82))))
set_option maxHeartbeats 4000000 in
set_option maxRecDepth 100000 in
theorem r_X12_fars_b0 (v0 : Nat) (v1 : Int32) (h : Hp) {x : Cx} {r : Unit} {hz : Hp} (e : F_X12_fars_b0 v0 v1 h = some (r, hz)) (hF : Fin9 M_X12_fars x none none hz) : V M_X12_fars x 2 0 [(0, .ref v0), (1, .int v1)] [] h 0 0 := by
  unfold F_X12_fars_b0 at e
  refine V_iconst (pc := 0) (v := (0 : Int32)) dX12_fars_0 (by decide) ?_
  refine V_istore_n (pc := 1) (i := 2) (lv' := [(2, .int (0 : Int32)), (0, .ref v0), (1, .int v1)]) dX12_fars_1 rfl (by decide) rfl ?_
  refine V_pick [1, 2, 0] rfl ?_
  obtain ⟨y86, g87, e⟩ := ob_some e
  refine iter_V (P := fun z : Int32 × Hp => V M_X12_fars x 2 2 [(0, .ref v0), (1, .int v1), (2, .int z.1)] [] z.2 0 0) (E := fun z : Hp => V M_X12_fars x 2 23 [(0, .ref v0), (1, .int v1)] [] z 0 0) (fun z o e9 k1 k2 => r_X12_fars_l2 v0 v1 z.1 z.2 e9 (fun z hz9 => k1 z hz9) (fun z hz9 => k2 _ hz9)) _ _ _ g87 ?_
  clear g87
  obtain ⟨h9, rfl⟩ : ∃ q, q = y86 := ⟨_, rfl⟩
  replace e : (gd (decide (kd h9 v0 = 11)) <| ob (zR h9 v0 20) fun q11 => gd (decide (kd h9 q11 = 14)) <| gd (ix v1 (zl h9 q11)) <| (if (zI h9 q11 (v1).toNatClampNeg) = 0 then some ((), h9) else ob (zR h9 v0 21) fun q15 => gd (decide (kd h9 q15 = 13)) <| gd (ix v1 (zl h9 q15)) <| ob (zR (setI h9 q15 (v1).toNatClampNeg (0 : Int32)) v0 22) fun q19 => gd (decide (kd (setI h9 q15 (v1).toNatClampNeg (0 : Int32)) q19 = 13)) <| gd (ix (0 : Int32) (zl (setI h9 q15 (v1).toNatClampNeg (0 : Int32)) q19)) <| ob (iter (fun z : Int32 × Int32 × Hp => F_X12_fars_l51 v0 z.1 z.2.1 z.2.2) FU ((1 : Int32), (0 : Int32), setI (setI h9 q15 (v1).toNatClampNeg (0 : Int32)) q19 ((0 : Int32)).toNatClampNeg v1)) (fun h82 => some ((), h82)))) = some (r, hz) := e
  show V M_X12_fars x 2 23 [(0, .ref v0), (1, .int v1)] [] h9 0 0
  refine V_aload_n (pc := 23) (i := 0) dX12_fars_23 rfl rfl ?_
  obtain ⟨g10, e⟩ := gd_some e
  obtain ⟨q11, g12, e⟩ := ob_some e
  refine V_getR (pc := 24) (ci := 11) (k := 20) (b := q11) dX12_fars_24 fl_X12_46 rfl (of_decide_eq_true g10) g12 ?_
  refine V_iload_n (pc := 27) (i := 1) dX12_fars_27 rfl rfl ?_
  obtain ⟨g13, e⟩ := gd_some e
  obtain ⟨g14, e⟩ := gd_some e
  refine V_zald (pc := 28) dX12_fars_28 (of_decide_eq_true g13) (ix_in g14) ?_
  refine V_if_ne (pc := 29) (tgt := 33) dX12_fars_29 (by decide) (fun c85 => ?_) (fun c85 => ?_)
  · rw [if_neg c85] at e
    refine V_pick [0, 1] rfl ?_
    refine V_aload_n (pc := 33) (i := 0) dX12_fars_33 rfl rfl ?_
    obtain ⟨q15, g16, e⟩ := ob_some e
    refine V_getR (pc := 34) (ci := 11) (k := 21) (b := q15) dX12_fars_34 fl_X12_50 rfl (of_decide_eq_true g10) g16 ?_
    refine V_iload_n (pc := 37) (i := 1) dX12_fars_37 rfl rfl ?_
    refine V_iconst (pc := 38) (v := (0 : Int32)) dX12_fars_38 (by decide) ?_
    obtain ⟨g17, e⟩ := gd_some e
    obtain ⟨g18, e⟩ := gd_some e
    refine V_iast (pc := 39) dX12_fars_39 (of_decide_eq_true g17) (ix_in g18) ?_
    refine V_aload_n (pc := 40) (i := 0) dX12_fars_40 rfl rfl ?_
    obtain ⟨q19, g20, e⟩ := ob_some e
    refine V_getR (pc := 41) (ci := 11) (k := 22) (b := q19) dX12_fars_41 fl_X12_53 rfl (kd_sI (of_decide_eq_true g10)) g20 ?_
    refine V_iconst (pc := 44) (v := (0 : Int32)) dX12_fars_44 (by decide) ?_
    refine V_iload_n (pc := 45) (i := 1) dX12_fars_45 rfl rfl ?_
    obtain ⟨g21, e⟩ := gd_some e
    obtain ⟨g22, e⟩ := gd_some e
    refine V_iast (pc := 46) dX12_fars_46 (of_decide_eq_true g21) (ix_in g22) ?_
    refine V_iconst (pc := 47) (v := (1 : Int32)) dX12_fars_47 (by decide) ?_
    refine V_istore_n (pc := 48) (i := 2) (lv' := [(2, .int (1 : Int32)), (0, .ref v0), (1, .int v1)]) dX12_fars_48 rfl (by decide) rfl ?_
    refine V_iconst (pc := 49) (v := (0 : Int32)) dX12_fars_49 (by decide) ?_
    refine V_istore_n (pc := 50) (i := 3) (lv' := [(3, .int (0 : Int32)), (2, .int (1 : Int32)), (0, .ref v0), (1, .int v1)]) dX12_fars_50 rfl (by decide) rfl ?_
    refine V_pick [2, 1, 0] rfl ?_
    obtain ⟨y83, g84, e⟩ := ob_some e
    refine iter_V (P := fun z : Int32 × Int32 × Hp => V M_X12_fars x 2 51 [(0, .ref v0), (2, .int z.1), (3, .int z.2.1)] [] z.2.2 0 0) (E := fun z : Hp => V M_X12_fars x 2 168 [] [] z 0 0) (fun z o e9 k1 k2 => r_X12_fars_l51 v0 z.1 z.2.1 z.2.2 e9 (fun z hz9 => k1 z hz9) (fun z hz9 => k2 _ hz9)) _ _ _ g84 ?_
    clear g84
    obtain ⟨h82, rfl⟩ : ∃ q, q = y83 := ⟨_, rfl⟩
    replace e : (some ((), h82)) = some (r, hz) := e
    show V M_X12_fars x 2 168 [] [] h82 0 0
    cases e
    exact V_vret (pc := 168) dX12_fars_168 hF
  · rw [if_pos c85] at e
    refine V_pick [] rfl ?_
    cases e
    exact V_vret (pc := 32) dX12_fars_32 hF
def F_X12_fars (v0 : Nat) (v1 : Int32) (h : Hp) : Option (Unit × Hp) := F_X12_fars_b0 v0 v1 h
theorem c_X12_fars {l : Launch} (v0 : Nat) (v1 : Int32) (h : Hp) {r : Unit} {hz : Hp} (e : F_X12_fars v0 v1 h = some (r, hz)) : Ct l yX12_fars M_X12_fars none 2 [.ref v0, .int v1] h 0 0 none hz :=
  Ct_of rfl rfl (fun q => by cases q) (Nat.le_of_ble_eq_true rfl) (fun x _ hF => V_pick [0, 1] rfl (r_X12_fars_b0 v0 v1 h e hF))
theorem dX12_bellsFrom_0 : decode cX12_bellsFrom 0 = .ok (.iload_n 1, 1) := by decide +kernel
theorem dX12_bellsFrom_1 : decode cX12_bellsFrom 1 = .ok (.iload_n 2, 1) := by decide +kernel
theorem dX12_bellsFrom_2 : decode cX12_bellsFrom 2 = .ok (.if_icmp .ne 5, 3) := by decide +kernel
theorem dX12_bellsFrom_5 : decode cX12_bellsFrom 5 = .ok (.iconst 0, 1) := by decide +kernel
theorem dX12_bellsFrom_6 : decode cX12_bellsFrom 6 = .ok (.ireturn, 1) := by decide +kernel
theorem dX12_bellsFrom_7 : decode cX12_bellsFrom 7 = .ok (.iconst (-1), 1) := by decide +kernel
theorem dX12_bellsFrom_8 : decode cX12_bellsFrom 8 = .ok (.istore_n 3, 1) := by decide +kernel
theorem dX12_bellsFrom_9 : decode cX12_bellsFrom 9 = .ok (.iconst 0, 1) := by decide +kernel
theorem dX12_bellsFrom_10 : decode cX12_bellsFrom 10 = .ok (.istore 4, 2) := by decide +kernel
theorem dX12_bellsFrom_12 : decode cX12_bellsFrom 12 = .ok (.iload 4, 2) := by decide +kernel
theorem dX12_bellsFrom_14 : decode cX12_bellsFrom 14 = .ok (.aload_n 0, 1) := by decide +kernel
theorem dX12_bellsFrom_15 : decode cX12_bellsFrom 15 = .ok (.invokevirtual 68, 3) := by decide +kernel
theorem dX12_bellsFrom_18 : decode cX12_bellsFrom 18 = .ok (.if_icmp .ge 88, 3) := by decide +kernel
theorem dX12_bellsFrom_21 : decode cX12_bellsFrom 21 = .ok (.iconst 0, 1) := by decide +kernel
theorem dX12_bellsFrom_22 : decode cX12_bellsFrom 22 = .ok (.istore 5, 2) := by decide +kernel
theorem dX12_bellsFrom_24 : decode cX12_bellsFrom 24 = .ok (.iload 5, 2) := by decide +kernel
theorem dX12_bellsFrom_26 : decode cX12_bellsFrom 26 = .ok (.aload_n 0, 1) := by decide +kernel
theorem dX12_bellsFrom_27 : decode cX12_bellsFrom 27 = .ok (.invokevirtual 60, 3) := by decide +kernel
theorem dX12_bellsFrom_30 : decode cX12_bellsFrom 30 = .ok (.if_icmp .ge 70, 3) := by decide +kernel
theorem dX12_bellsFrom_33 : decode cX12_bellsFrom 33 = .ok (.aload_n 0, 1) := by decide +kernel
theorem dX12_bellsFrom_34 : decode cX12_bellsFrom 34 = .ok (.iload_n 1, 1) := by decide +kernel
theorem dX12_bellsFrom_35 : decode cX12_bellsFrom 35 = .ok (.iload 4, 2) := by decide +kernel
theorem dX12_bellsFrom_37 : decode cX12_bellsFrom 37 = .ok (.iload 5, 2) := by decide +kernel
theorem dX12_bellsFrom_39 : decode cX12_bellsFrom 39 = .ok (.invokevirtual 361, 3) := by decide +kernel
theorem dX12_bellsFrom_42 : decode cX12_bellsFrom 42 = .ok (.istore 6, 2) := by decide +kernel
theorem dX12_bellsFrom_44 : decode cX12_bellsFrom 44 = .ok (.iload 6, 2) := by decide +kernel
theorem dX12_bellsFrom_46 : decode cX12_bellsFrom 46 = .ok (.iload_n 1, 1) := by decide +kernel
theorem dX12_bellsFrom_47 : decode cX12_bellsFrom 47 = .ok (.if_icmp .eq 47, 3) := by decide +kernel
theorem dX12_bellsFrom_50 : decode cX12_bellsFrom 50 = .ok (.aload_n 0, 1) := by decide +kernel
theorem dX12_bellsFrom_51 : decode cX12_bellsFrom 51 = .ok (.getfield 50, 3) := by decide +kernel
theorem dX12_bellsFrom_54 : decode cX12_bellsFrom 54 = .ok (.iload 6, 2) := by decide +kernel
theorem dX12_bellsFrom_56 : decode cX12_bellsFrom 56 = .ok (.iaload, 1) := by decide +kernel
theorem dX12_bellsFrom_57 : decode cX12_bellsFrom 57 = .ok (.ifCond .ge 6, 3) := by decide +kernel
theorem dX12_bellsFrom_60 : decode cX12_bellsFrom 60 = .ok (.goto 34, 3) := by decide +kernel
theorem dX12_bellsFrom_63 : decode cX12_bellsFrom 63 = .ok (.iload_n 3, 1) := by decide +kernel
theorem dX12_bellsFrom_64 : decode cX12_bellsFrom 64 = .ok (.ifCond .lt 16, 3) := by decide +kernel
theorem dX12_bellsFrom_67 : decode cX12_bellsFrom 67 = .ok (.aload_n 0, 1) := by decide +kernel
theorem dX12_bellsFrom_68 : decode cX12_bellsFrom 68 = .ok (.getfield 50, 3) := by decide +kernel
theorem dX12_bellsFrom_71 : decode cX12_bellsFrom 71 = .ok (.iload 6, 2) := by decide +kernel
theorem dX12_bellsFrom_73 : decode cX12_bellsFrom 73 = .ok (.iaload, 1) := by decide +kernel
theorem dX12_bellsFrom_74 : decode cX12_bellsFrom 74 = .ok (.iconst 1, 1) := by decide +kernel
theorem dX12_bellsFrom_75 : decode cX12_bellsFrom 75 = .ok (.iadd, 1) := by decide +kernel
theorem dX12_bellsFrom_76 : decode cX12_bellsFrom 76 = .ok (.iload_n 3, 1) := by decide +kernel
theorem dX12_bellsFrom_77 : decode cX12_bellsFrom 77 = .ok (.if_icmp .ge 15, 3) := by decide +kernel
theorem dX12_bellsFrom_80 : decode cX12_bellsFrom 80 = .ok (.aload_n 0, 1) := by decide +kernel
theorem dX12_bellsFrom_81 : decode cX12_bellsFrom 81 = .ok (.getfield 50, 3) := by decide +kernel
theorem dX12_bellsFrom_84 : decode cX12_bellsFrom 84 = .ok (.iload 6, 2) := by decide +kernel
theorem dX12_bellsFrom_86 : decode cX12_bellsFrom 86 = .ok (.iaload, 1) := by decide +kernel
theorem dX12_bellsFrom_87 : decode cX12_bellsFrom 87 = .ok (.iconst 1, 1) := by decide +kernel
theorem dX12_bellsFrom_88 : decode cX12_bellsFrom 88 = .ok (.iadd, 1) := by decide +kernel
theorem dX12_bellsFrom_89 : decode cX12_bellsFrom 89 = .ok (.goto 4, 3) := by decide +kernel
theorem dX12_bellsFrom_92 : decode cX12_bellsFrom 92 = .ok (.iload_n 3, 1) := by decide +kernel
theorem dX12_bellsFrom_93 : decode cX12_bellsFrom 93 = .ok (.istore_n 3, 1) := by decide +kernel
theorem dX12_bellsFrom_94 : decode cX12_bellsFrom 94 = .ok (.iinc 5 1, 3) := by decide +kernel
theorem dX12_bellsFrom_97 : decode cX12_bellsFrom 97 = .ok (.goto (-73), 3) := by decide +kernel
theorem dX12_bellsFrom_100 : decode cX12_bellsFrom 100 = .ok (.iinc 4 1, 3) := by decide +kernel
theorem dX12_bellsFrom_103 : decode cX12_bellsFrom 103 = .ok (.goto (-91), 3) := by decide +kernel
theorem dX12_bellsFrom_106 : decode cX12_bellsFrom 106 = .ok (.iload_n 3, 1) := by decide +kernel
theorem dX12_bellsFrom_107 : decode cX12_bellsFrom 107 = .ok (.ireturn, 1) := by decide +kernel
set_option maxRecDepth 100000 in
def F_X12_bellsFrom_b94 (v0 : Nat) (v1 : Int32) (v3 : Int32) (v4 : Int32) (v5 : Int32) (h : Hp) : Option ((Int32 × Int32) ⊕ Int32) :=
  some (.inl (v3, v5 + (1 : Int32)))
set_option maxHeartbeats 4000000 in
set_option maxRecDepth 100000 in
theorem r_X12_bellsFrom_b94 (v0 : Nat) (v1 : Int32) (v3 : Int32) (v4 : Int32) (v5 : Int32) (h : Hp) {x : Cx} {o : ((Int32 × Int32) ⊕ Int32)} (e : F_X12_bellsFrom_b94 v0 v1 v3 v4 v5 h = some o) (kI : ∀ z, o = .inl z → V M_X12_bellsFrom x 2 24 [(0, .ref v0), (1, .int v1), (3, .int z.1), (4, .int v4), (5, .int z.2)] [] h 0 0) (kE100 : ∀ z : Int32, o = .inr z → V M_X12_bellsFrom x 2 100 [(0, .ref v0), (1, .int v1), (3, .int z), (4, .int v4)] [] h 0 0) : V M_X12_bellsFrom x 2 94 [(0, .ref v0), (1, .int v1), (3, .int v3), (4, .int v4), (5, .int v5)] [] h 0 0 := by
  unfold F_X12_bellsFrom_b94 at e
  refine V_iinc (pc := 94) (i := 5) (u := v5 + (1 : Int32)) (lv' := [(5, .int (v5 + (1 : Int32))), (0, .ref v0), (1, .int v1), (3, .int v3), (4, .int v4)]) dX12_bellsFrom_94 rfl rfl (by decide) rfl ?_
  refine V_goto (pc := 97) (tgt := 24) dX12_bellsFrom_97 (by decide) ?_
  cases e
  exact V_pick [1, 2, 3, 4, 0] rfl (kI (v3, v5 + (1 : Int32)) rfl)
set_option maxRecDepth 100000 in
def F_X12_bellsFrom_b93 (v0 : Nat) (v1 : Int32) (v4 : Int32) (v5 : Int32) (t0 : Int32) (h : Hp) : Option ((Int32 × Int32) ⊕ Int32) :=
  F_X12_bellsFrom_b94 v0 v1 t0 v4 v5 h
set_option maxHeartbeats 4000000 in
set_option maxRecDepth 100000 in
theorem r_X12_bellsFrom_b93 (v0 : Nat) (v1 : Int32) (v4 : Int32) (v5 : Int32) (t0 : Int32) (h : Hp) {x : Cx} {o : ((Int32 × Int32) ⊕ Int32)} (e : F_X12_bellsFrom_b93 v0 v1 v4 v5 t0 h = some o) (kI : ∀ z, o = .inl z → V M_X12_bellsFrom x 2 24 [(0, .ref v0), (1, .int v1), (3, .int z.1), (4, .int v4), (5, .int z.2)] [] h 0 0) (kE100 : ∀ z : Int32, o = .inr z → V M_X12_bellsFrom x 2 100 [(0, .ref v0), (1, .int v1), (3, .int z), (4, .int v4)] [] h 0 0) : V M_X12_bellsFrom x 2 93 [(0, .ref v0), (1, .int v1), (4, .int v4), (5, .int v5)] [.int t0] h 0 0 := by
  unfold F_X12_bellsFrom_b93 at e
  refine V_istore_n (pc := 93) (i := 3) (lv' := [(3, .int t0), (0, .ref v0), (1, .int v1), (4, .int v4), (5, .int v5)]) dX12_bellsFrom_93 rfl (by decide) rfl ?_
  exact V_pick [1, 2, 0, 3, 4] rfl (r_X12_bellsFrom_b94 v0 v1 t0 v4 v5 h e kI kE100)
set_option maxRecDepth 100000 in
def F_X12_bellsFrom_b80 (v0 : Nat) (v1 : Int32) (v4 : Int32) (v5 : Int32) (v6 : Int32) (h : Hp) : Option ((Int32 × Int32) ⊕ Int32) :=
  gd (decide (kd h v0 = 11)) <| ob (zR h v0 21) fun q14 => gd (decide (kd h q14 = 13)) <| gd (ix v6 (zl h q14)) <| F_X12_bellsFrom_b93 v0 v1 v4 v5 ((zI h q14 (v6).toNatClampNeg) + (1 : Int32)) h
set_option maxHeartbeats 4000000 in
set_option maxRecDepth 100000 in
theorem r_X12_bellsFrom_b80 (v0 : Nat) (v1 : Int32) (v4 : Int32) (v5 : Int32) (v6 : Int32) (h : Hp) {x : Cx} {o : ((Int32 × Int32) ⊕ Int32)} (e : F_X12_bellsFrom_b80 v0 v1 v4 v5 v6 h = some o) (kI : ∀ z, o = .inl z → V M_X12_bellsFrom x 2 24 [(0, .ref v0), (1, .int v1), (3, .int z.1), (4, .int v4), (5, .int z.2)] [] h 0 0) (kE100 : ∀ z : Int32, o = .inr z → V M_X12_bellsFrom x 2 100 [(0, .ref v0), (1, .int v1), (3, .int z), (4, .int v4)] [] h 0 0) : V M_X12_bellsFrom x 2 80 [(0, .ref v0), (1, .int v1), (4, .int v4), (5, .int v5), (6, .int v6)] [] h 0 0 := by
  unfold F_X12_bellsFrom_b80 at e
  refine V_aload_n (pc := 80) (i := 0) dX12_bellsFrom_80 rfl rfl ?_
  obtain ⟨g13, e⟩ := gd_some e
  obtain ⟨q14, g15, e⟩ := ob_some e
  refine V_getR (pc := 81) (ci := 11) (k := 21) (b := q14) dX12_bellsFrom_81 fl_X12_50 rfl (of_decide_eq_true g13) g15 ?_
  refine V_iload (pc := 84) (i := 6) dX12_bellsFrom_84 rfl ?_
  obtain ⟨g16, e⟩ := gd_some e
  obtain ⟨g17, e⟩ := gd_some e
  refine V_iald (pc := 86) dX12_bellsFrom_86 (of_decide_eq_true g16) (ix_in g17) ?_
  refine V_iconst (pc := 87) (v := (1 : Int32)) dX12_bellsFrom_87 (by decide) ?_
  refine V_iadd (pc := 88) dX12_bellsFrom_88 ?_
  refine V_goto (pc := 89) (tgt := 93) dX12_bellsFrom_89 (by decide) ?_
  exact V_pick [0, 1, 2, 3] rfl (r_X12_bellsFrom_b93 v0 v1 v4 v5 ((zI h q14 (v6).toNatClampNeg) + (1 : Int32)) h e kI kE100)
set_option maxRecDepth 100000 in
def F_X12_bellsFrom_l24 (v0 : Nat) (v1 : Int32) (v3 : Int32) (v4 : Int32) (v5 : Int32) (h : Hp) : Option ((Int32 × Int32) ⊕ Int32) :=
  ob (F_X12_rooms v0 h) fun r5 => gd (decide (kd h v0 = 11)) <| (if r5 ≤ v5 then some (.inr v3) else ob (F_X12_sent v0 v1 v4 v5 h) fun r8 => (if r8 = v1 then F_X12_bellsFrom_b94 v0 v1 v3 v4 v5 h else ob (zR h v0 21) fun q9 => gd (decide (kd h q9 = 13)) <| gd (ix r8 (zl h q9)) <| (if 0 ≤ (zI h q9 (r8).toNatClampNeg) then (if v3 < 0 then F_X12_bellsFrom_b80 v0 v1 v4 v5 r8 h else ob (zR h v0 21) fun q18 => gd (decide (kd h q18 = 13)) <| gd (ix r8 (zl h q18)) <| (if v3 ≤ ((zI h q18 (r8).toNatClampNeg) + (1 : Int32)) then F_X12_bellsFrom_b93 v0 v1 v4 v5 v3 h else F_X12_bellsFrom_b80 v0 v1 v4 v5 r8 h)) else F_X12_bellsFrom_b94 v0 v1 v3 v4 v5 h)))
set_option maxHeartbeats 4000000 in
set_option maxRecDepth 100000 in
theorem r_X12_bellsFrom_l24 (v0 : Nat) (v1 : Int32) (v3 : Int32) (v4 : Int32) (v5 : Int32) (h : Hp) {x : Cx} {o : ((Int32 × Int32) ⊕ Int32)} (e : F_X12_bellsFrom_l24 v0 v1 v3 v4 v5 h = some o) (kI : ∀ z, o = .inl z → V M_X12_bellsFrom x 2 24 [(0, .ref v0), (1, .int v1), (3, .int z.1), (4, .int v4), (5, .int z.2)] [] h 0 0) (kE100 : ∀ z : Int32, o = .inr z → V M_X12_bellsFrom x 2 100 [(0, .ref v0), (1, .int v1), (3, .int z), (4, .int v4)] [] h 0 0) : V M_X12_bellsFrom x 2 24 [(0, .ref v0), (1, .int v1), (3, .int v3), (4, .int v4), (5, .int v5)] [] h 0 0 := by
  unfold F_X12_bellsFrom_l24 at e
  refine V_iload (pc := 24) (i := 5) dX12_bellsFrom_24 rfl ?_
  refine V_aload_n (pc := 26) (i := 0) dX12_bellsFrom_26 rfl rfl ?_
  obtain ⟨r5, g4, e⟩ := ob_some e
  obtain ⟨g6, e⟩ := gd_some e
  refine V_callV (pc := 27) (bc := 0) (bs := 0) (mc := 0) (ms := 0) (st := [.int v5]) (As := []) (a := v0) (h' := h) (r := some (.int r5)) dX12_bellsFrom_27 ml_X12_60 (ci := 11) rfl (of_decide_eq_true g6) rfl rfl (Nat.le_of_ble_eq_true rfl) (d' := 0) (by decide) (c_X12_rooms (l := x.2.1) v0 h g4) ?_
  refine V_icmp_ge (pc := 30) (tgt := 100) dX12_bellsFrom_30 (by decide) (fun c26 => ?_) (fun c26 => ?_)
  · rw [if_pos c26] at e
    cases e
    exact V_pick [0, 1, 2, 3] rfl (kE100 v3 rfl)
  · rw [if_neg c26] at e
    refine V_pick [0, 1, 2, 3, 4] rfl ?_
    refine V_aload_n (pc := 33) (i := 0) dX12_bellsFrom_33 rfl rfl ?_
    refine V_iload_n (pc := 34) (i := 1) dX12_bellsFrom_34 rfl rfl ?_
    refine V_iload (pc := 35) (i := 4) dX12_bellsFrom_35 rfl ?_
    refine V_iload (pc := 37) (i := 5) dX12_bellsFrom_37 rfl ?_
    obtain ⟨r8, g7, e⟩ := ob_some e
    refine V_callV (pc := 39) (bc := 0) (bs := 0) (mc := 0) (ms := 0) (st := []) (As := [.int v1, .int v4, .int v5]) (a := v0) (h' := h) (r := some (.int r8)) dX12_bellsFrom_39 ml_X12_361 (ci := 11) rfl (of_decide_eq_true g6) rfl rfl (Nat.le_of_ble_eq_true rfl) (d' := 1) (by decide) (c_X12_sent (l := x.2.1) v0 v1 v4 v5 h g7) ?_
    refine V_istore (pc := 42) (i := 6) (lv' := [(6, .int r8), (0, .ref v0), (1, .int v1), (3, .int v3), (4, .int v4), (5, .int v5)]) dX12_bellsFrom_42 (by decide) rfl ?_
    refine V_iload (pc := 44) (i := 6) dX12_bellsFrom_44 rfl ?_
    refine V_iload_n (pc := 46) (i := 1) dX12_bellsFrom_46 rfl rfl ?_
    refine V_icmp_eq (pc := 47) (tgt := 94) dX12_bellsFrom_47 (by decide) (fun c25 => ?_) (fun c25 => ?_)
    · rw [if_pos c25] at e
      exact V_pick [1, 2, 3, 4, 5] rfl (r_X12_bellsFrom_b94 v0 v1 v3 v4 v5 h e kI kE100)
    · rw [if_neg c25] at e
      refine V_pick [1, 2, 3, 4, 5, 0] rfl ?_
      refine V_aload_n (pc := 50) (i := 0) dX12_bellsFrom_50 rfl rfl ?_
      obtain ⟨q9, g10, e⟩ := ob_some e
      refine V_getR (pc := 51) (ci := 11) (k := 21) (b := q9) dX12_bellsFrom_51 fl_X12_50 rfl (of_decide_eq_true g6) g10 ?_
      refine V_iload (pc := 54) (i := 6) dX12_bellsFrom_54 rfl ?_
      obtain ⟨g11, e⟩ := gd_some e
      obtain ⟨g12, e⟩ := gd_some e
      refine V_iald (pc := 56) dX12_bellsFrom_56 (of_decide_eq_true g11) (ix_in g12) ?_
      refine V_if_ge (pc := 57) (tgt := 63) dX12_bellsFrom_57 (by decide) (fun c24 => ?_) (fun c24 => ?_)
      · rw [if_pos c24] at e
        refine V_pick [0, 1, 2, 3, 4, 5] rfl ?_
        refine V_iload_n (pc := 63) (i := 3) dX12_bellsFrom_63 rfl rfl ?_
        refine V_if_lt (pc := 64) (tgt := 80) dX12_bellsFrom_64 (by decide) (fun c23 => ?_) (fun c23 => ?_)
        · rw [if_pos c23] at e
          exact V_pick [0, 1, 3, 4, 5] rfl (r_X12_bellsFrom_b80 v0 v1 v4 v5 r8 h e kI kE100)
        · rw [if_neg c23] at e
          refine V_pick [0, 1, 2, 3, 4, 5] rfl ?_
          refine V_aload_n (pc := 67) (i := 0) dX12_bellsFrom_67 rfl rfl ?_
          obtain ⟨q18, g19, e⟩ := ob_some e
          refine V_getR (pc := 68) (ci := 11) (k := 21) (b := q18) dX12_bellsFrom_68 fl_X12_50 rfl (of_decide_eq_true g6) g19 ?_
          refine V_iload (pc := 71) (i := 6) dX12_bellsFrom_71 rfl ?_
          obtain ⟨g20, e⟩ := gd_some e
          obtain ⟨g21, e⟩ := gd_some e
          refine V_iald (pc := 73) dX12_bellsFrom_73 (of_decide_eq_true g20) (ix_in g21) ?_
          refine V_iconst (pc := 74) (v := (1 : Int32)) dX12_bellsFrom_74 (by decide) ?_
          refine V_iadd (pc := 75) dX12_bellsFrom_75 ?_
          refine V_iload_n (pc := 76) (i := 3) dX12_bellsFrom_76 rfl rfl ?_
          refine V_icmp_ge (pc := 77) (tgt := 92) dX12_bellsFrom_77 (by decide) (fun c22 => ?_) (fun c22 => ?_)
          · rw [if_pos c22] at e
            refine V_pick [0, 1, 2, 3, 4] rfl ?_
            refine V_iload_n (pc := 92) (i := 3) dX12_bellsFrom_92 rfl rfl ?_
            exact V_pick [0, 1, 3, 4] rfl (r_X12_bellsFrom_b93 v0 v1 v4 v5 v3 h e kI kE100)
          · rw [if_neg c22] at e
            exact V_pick [0, 1, 3, 4, 5] rfl (r_X12_bellsFrom_b80 v0 v1 v4 v5 r8 h e kI kE100)
      · rw [if_neg c24] at e
        refine V_pick [0, 1, 2, 3, 4] rfl ?_
        refine V_goto (pc := 60) (tgt := 94) dX12_bellsFrom_60 (by decide) ?_
        exact V_pick [0, 1, 2, 3, 4] rfl (r_X12_bellsFrom_b94 v0 v1 v3 v4 v5 h e kI kE100)
set_option maxRecDepth 100000 in
def F_X12_bellsFrom_l12 (v0 : Nat) (v1 : Int32) (v3 : Int32) (v4 : Int32) (h : Hp) : Option ((Int32 × Int32) ⊕ Int32) :=
  ob (F_X12_guests v0 h) fun r2 => gd (decide (kd h v0 = 11)) <| (if r2 ≤ v4 then some (.inr v3) else ob (iter (fun z : Int32 × Int32 => F_X12_bellsFrom_l24 v0 v1 z.1 v4 z.2 h) FU (v3, (0 : Int32))) (fun w27 => some (.inl (w27, v4 + (1 : Int32)))))
set_option maxHeartbeats 4000000 in
set_option maxRecDepth 100000 in
theorem r_X12_bellsFrom_l12 (v0 : Nat) (v1 : Int32) (v3 : Int32) (v4 : Int32) (h : Hp) {x : Cx} {o : ((Int32 × Int32) ⊕ Int32)} (e : F_X12_bellsFrom_l12 v0 v1 v3 v4 h = some o) (kI : ∀ z, o = .inl z → V M_X12_bellsFrom x 2 12 [(0, .ref v0), (1, .int v1), (3, .int z.1), (4, .int z.2)] [] h 0 0) (kE106 : ∀ z : Int32, o = .inr z → V M_X12_bellsFrom x 2 106 [(3, .int z)] [] h 0 0) : V M_X12_bellsFrom x 2 12 [(0, .ref v0), (1, .int v1), (3, .int v3), (4, .int v4)] [] h 0 0 := by
  unfold F_X12_bellsFrom_l12 at e
  refine V_iload (pc := 12) (i := 4) dX12_bellsFrom_12 rfl ?_
  refine V_aload_n (pc := 14) (i := 0) dX12_bellsFrom_14 rfl rfl ?_
  obtain ⟨r2, g1, e⟩ := ob_some e
  obtain ⟨g3, e⟩ := gd_some e
  refine V_callV (pc := 15) (bc := 0) (bs := 0) (mc := 0) (ms := 0) (st := [.int v4]) (As := []) (a := v0) (h' := h) (r := some (.int r2)) dX12_bellsFrom_15 ml_X12_68 (ci := 11) rfl (of_decide_eq_true g3) rfl rfl (Nat.le_of_ble_eq_true rfl) (d' := 0) (by decide) (c_X12_guests (l := x.2.1) v0 h g1) ?_
  refine V_icmp_ge (pc := 18) (tgt := 106) dX12_bellsFrom_18 (by decide) (fun c30 => ?_) (fun c30 => ?_)
  · rw [if_pos c30] at e
    cases e
    exact V_pick [2] rfl (kE106 v3 rfl)
  · rw [if_neg c30] at e
    refine V_pick [0, 1, 2, 3] rfl ?_
    refine V_iconst (pc := 21) (v := (0 : Int32)) dX12_bellsFrom_21 (by decide) ?_
    refine V_istore (pc := 22) (i := 5) (lv' := [(5, .int (0 : Int32)), (0, .ref v0), (1, .int v1), (3, .int v3), (4, .int v4)]) dX12_bellsFrom_22 (by decide) rfl ?_
    refine V_pick [1, 2, 3, 4, 0] rfl ?_
    obtain ⟨y28, g29, e⟩ := ob_some e
    refine iter_V (P := fun z : Int32 × Int32 => V M_X12_bellsFrom x 2 24 [(0, .ref v0), (1, .int v1), (3, .int z.1), (4, .int v4), (5, .int z.2)] [] h 0 0) (E := fun z : Int32 => V M_X12_bellsFrom x 2 100 [(0, .ref v0), (1, .int v1), (3, .int z), (4, .int v4)] [] h 0 0) (fun z o e9 k1 k2 => r_X12_bellsFrom_l24 v0 v1 z.1 v4 z.2 h e9 (fun z hz9 => k1 z hz9) (fun z hz9 => k2 _ hz9)) _ _ _ g29 ?_
    clear g29
    obtain ⟨w27, rfl⟩ : ∃ q, q = y28 := ⟨_, rfl⟩
    replace e : (some (.inl (w27, v4 + (1 : Int32)))) = some o := e
    show V M_X12_bellsFrom x 2 100 [(0, .ref v0), (1, .int v1), (3, .int w27), (4, .int v4)] [] h 0 0
    refine V_iinc (pc := 100) (i := 4) (u := v4 + (1 : Int32)) (lv' := [(4, .int (v4 + (1 : Int32))), (0, .ref v0), (1, .int v1), (3, .int w27)]) dX12_bellsFrom_100 rfl rfl (by decide) rfl ?_
    refine V_goto (pc := 103) (tgt := 12) dX12_bellsFrom_103 (by decide) ?_
    cases e
    exact V_pick [1, 2, 3, 0] rfl (kI (w27, v4 + (1 : Int32)) rfl)
set_option maxRecDepth 100000 in
def F_X12_bellsFrom_b0 (v0 : Nat) (v1 : Int32) (v2 : Int32) (h : Hp) : Option Int32 :=
  (if v1 = v2 then some (0 : Int32) else ob (iter (fun z : Int32 × Int32 => F_X12_bellsFrom_l12 v0 v1 z.1 z.2 h) FU ((-1 : Int32), (0 : Int32))) (fun w31 => some w31))
set_option maxHeartbeats 4000000 in
set_option maxRecDepth 100000 in
theorem r_X12_bellsFrom_b0 (v0 : Nat) (v1 : Int32) (v2 : Int32) (h : Hp) {x : Cx} {r : Int32} (e : F_X12_bellsFrom_b0 v0 v1 v2 h = some r) (hF : Fin9 M_X12_bellsFrom x (some .int) (some (.int r)) h) : V M_X12_bellsFrom x 2 0 [(0, .ref v0), (1, .int v1), (2, .int v2)] [] h 0 0 := by
  unfold F_X12_bellsFrom_b0 at e
  refine V_iload_n (pc := 0) (i := 1) dX12_bellsFrom_0 rfl rfl ?_
  refine V_iload_n (pc := 1) (i := 2) dX12_bellsFrom_1 rfl rfl ?_
  refine V_icmp_ne (pc := 2) (tgt := 7) dX12_bellsFrom_2 (by decide) (fun c34 => ?_) (fun c34 => ?_)
  · rw [if_neg c34] at e
    refine V_pick [0, 1] rfl ?_
    refine V_iconst (pc := 7) (v := (-1 : Int32)) dX12_bellsFrom_7 (by decide) ?_
    refine V_istore_n (pc := 8) (i := 3) (lv' := [(3, .int (-1 : Int32)), (0, .ref v0), (1, .int v1)]) dX12_bellsFrom_8 rfl (by decide) rfl ?_
    refine V_iconst (pc := 9) (v := (0 : Int32)) dX12_bellsFrom_9 (by decide) ?_
    refine V_istore (pc := 10) (i := 4) (lv' := [(4, .int (0 : Int32)), (3, .int (-1 : Int32)), (0, .ref v0), (1, .int v1)]) dX12_bellsFrom_10 (by decide) rfl ?_
    refine V_pick [2, 3, 1, 0] rfl ?_
    obtain ⟨y32, g33, e⟩ := ob_some e
    refine iter_V (P := fun z : Int32 × Int32 => V M_X12_bellsFrom x 2 12 [(0, .ref v0), (1, .int v1), (3, .int z.1), (4, .int z.2)] [] h 0 0) (E := fun z : Int32 => V M_X12_bellsFrom x 2 106 [(3, .int z)] [] h 0 0) (fun z o e9 k1 k2 => r_X12_bellsFrom_l12 v0 v1 z.1 z.2 h e9 (fun z hz9 => k1 z hz9) (fun z hz9 => k2 _ hz9)) _ _ _ g33 ?_
    clear g33
    obtain ⟨w31, rfl⟩ : ∃ q, q = y32 := ⟨_, rfl⟩
    replace e : (some w31) = some r := e
    show V M_X12_bellsFrom x 2 106 [(3, .int w31)] [] h 0 0
    refine V_iload_n (pc := 106) (i := 3) dX12_bellsFrom_106 rfl rfl ?_
    cases e
    exact V_iret (pc := 107) dX12_bellsFrom_107 hF
  · rw [if_pos c34] at e
    refine V_pick [] rfl ?_
    refine V_iconst (pc := 5) (v := (0 : Int32)) dX12_bellsFrom_5 (by decide) ?_
    cases e
    exact V_iret (pc := 6) dX12_bellsFrom_6 hF
def F_X12_bellsFrom (v0 : Nat) (v1 : Int32) (v2 : Int32) (h : Hp) : Option Int32 := F_X12_bellsFrom_b0 v0 v1 v2 h
theorem c_X12_bellsFrom {l : Launch} (v0 : Nat) (v1 : Int32) (v2 : Int32) (h : Hp) {r : Int32} (e : F_X12_bellsFrom v0 v1 v2 h = some r) : Ct l yX12_bellsFrom M_X12_bellsFrom (some .int) 2 [.ref v0, .int v1, .int v2] h 0 0 (some (.int r)) h :=
  Ct_of rfl rfl (fun q => by cases q) (Nat.le_of_ble_eq_true rfl) (fun x _ hF => V_pick [0, 1, 2] rfl (r_X12_bellsFrom_b0 v0 v1 v2 h e hF))
theorem dX12_orderOf_0 : decode cX12_orderOf 0 = .ok (.iload_n 1, 1) := by decide +kernel
theorem dX12_orderOf_1 : decode cX12_orderOf 1 = .ok (.iconst 0, 1) := by decide +kernel
theorem dX12_orderOf_2 : decode cX12_orderOf 2 = .ok (.aload_n 0, 1) := by decide +kernel
theorem dX12_orderOf_3 : decode cX12_orderOf 3 = .ok (.invokevirtual 337, 3) := by decide +kernel
theorem dX12_orderOf_6 : decode cX12_orderOf 6 = .ok (.iconst 1, 1) := by decide +kernel
theorem dX12_orderOf_7 : decode cX12_orderOf 7 = .ok (.isub, 1) := by decide +kernel
theorem dX12_orderOf_8 : decode cX12_orderOf 8 = .ok (.invokestatic 64, 3) := by decide +kernel
theorem dX12_orderOf_11 : decode cX12_orderOf 11 = .ok (.ifCond .ne 5, 3) := by decide +kernel
theorem dX12_orderOf_14 : decode cX12_orderOf 14 = .ok (.iconst (-1), 1) := by decide +kernel
theorem dX12_orderOf_15 : decode cX12_orderOf 15 = .ok (.ireturn, 1) := by decide +kernel
theorem dX12_orderOf_16 : decode cX12_orderOf 16 = .ok (.iload_n 1, 1) := by decide +kernel
theorem dX12_orderOf_17 : decode cX12_orderOf 17 = .ok (.istore_n 2, 1) := by decide +kernel
theorem dX12_orderOf_18 : decode cX12_orderOf 18 = .ok (.iconst 1, 1) := by decide +kernel
theorem dX12_orderOf_19 : decode cX12_orderOf 19 = .ok (.istore_n 3, 1) := by decide +kernel
theorem dX12_orderOf_20 : decode cX12_orderOf 20 = .ok (.iconst 0, 1) := by decide +kernel
theorem dX12_orderOf_21 : decode cX12_orderOf 21 = .ok (.istore 4, 2) := by decide +kernel
theorem dX12_orderOf_23 : decode cX12_orderOf 23 = .ok (.iload 4, 2) := by decide +kernel
theorem dX12_orderOf_25 : decode cX12_orderOf 25 = .ok (.aload_n 0, 1) := by decide +kernel
theorem dX12_orderOf_26 : decode cX12_orderOf 26 = .ok (.invokevirtual 68, 3) := by decide +kernel
theorem dX12_orderOf_29 : decode cX12_orderOf 29 = .ok (.if_icmp .ge 49, 3) := by decide +kernel
theorem dX12_orderOf_32 : decode cX12_orderOf 32 = .ok (.aload_n 0, 1) := by decide +kernel
theorem dX12_orderOf_33 : decode cX12_orderOf 33 = .ok (.getfield 36, 3) := by decide +kernel
theorem dX12_orderOf_36 : decode cX12_orderOf 36 = .ok (.iload 4, 2) := by decide +kernel
theorem dX12_orderOf_38 : decode cX12_orderOf 38 = .ok (.iload_n 2, 1) := by decide +kernel
theorem dX12_orderOf_39 : decode cX12_orderOf 39 = .ok (.bipush 8, 2) := by decide +kernel
theorem dX12_orderOf_41 : decode cX12_orderOf 41 = .ok (.irem, 1) := by decide +kernel
theorem dX12_orderOf_42 : decode cX12_orderOf 42 = .ok (.iastore, 1) := by decide +kernel
theorem dX12_orderOf_43 : decode cX12_orderOf 43 = .ok (.iload_n 2, 1) := by decide +kernel
theorem dX12_orderOf_44 : decode cX12_orderOf 44 = .ok (.bipush 8, 2) := by decide +kernel
theorem dX12_orderOf_46 : decode cX12_orderOf 46 = .ok (.idiv, 1) := by decide +kernel
theorem dX12_orderOf_47 : decode cX12_orderOf 47 = .ok (.istore_n 2, 1) := by decide +kernel
theorem dX12_orderOf_48 : decode cX12_orderOf 48 = .ok (.iload_n 3, 1) := by decide +kernel
theorem dX12_orderOf_49 : decode cX12_orderOf 49 = .ok (.ifCond .eq 21, 3) := by decide +kernel
theorem dX12_orderOf_52 : decode cX12_orderOf 52 = .ok (.aload_n 0, 1) := by decide +kernel
theorem dX12_orderOf_53 : decode cX12_orderOf 53 = .ok (.getfield 36, 3) := by decide +kernel
theorem dX12_orderOf_56 : decode cX12_orderOf 56 = .ok (.iload 4, 2) := by decide +kernel
theorem dX12_orderOf_58 : decode cX12_orderOf 58 = .ok (.iaload, 1) := by decide +kernel
theorem dX12_orderOf_59 : decode cX12_orderOf 59 = .ok (.aload_n 0, 1) := by decide +kernel
theorem dX12_orderOf_60 : decode cX12_orderOf 60 = .ok (.invokevirtual 60, 3) := by decide +kernel
theorem dX12_orderOf_63 : decode cX12_orderOf 63 = .ok (.if_icmp .ge 7, 3) := by decide +kernel
theorem dX12_orderOf_66 : decode cX12_orderOf 66 = .ok (.iconst 1, 1) := by decide +kernel
theorem dX12_orderOf_67 : decode cX12_orderOf 67 = .ok (.goto 4, 3) := by decide +kernel
theorem dX12_orderOf_70 : decode cX12_orderOf 70 = .ok (.iconst 0, 1) := by decide +kernel
theorem dX12_orderOf_71 : decode cX12_orderOf 71 = .ok (.istore_n 3, 1) := by decide +kernel
theorem dX12_orderOf_72 : decode cX12_orderOf 72 = .ok (.iinc 4 1, 3) := by decide +kernel
theorem dX12_orderOf_75 : decode cX12_orderOf 75 = .ok (.goto (-52), 3) := by decide +kernel
theorem dX12_orderOf_78 : decode cX12_orderOf 78 = .ok (.iload_n 3, 1) := by decide +kernel
theorem dX12_orderOf_79 : decode cX12_orderOf 79 = .ok (.ifCond .eq 17, 3) := by decide +kernel
theorem dX12_orderOf_82 : decode cX12_orderOf 82 = .ok (.aload_n 0, 1) := by decide +kernel
theorem dX12_orderOf_83 : decode cX12_orderOf 83 = .ok (.invokevirtual 331, 3) := by decide +kernel
theorem dX12_orderOf_86 : decode cX12_orderOf 86 = .ok (.ifCond .eq 10, 3) := by decide +kernel
theorem dX12_orderOf_89 : decode cX12_orderOf 89 = .ok (.aload_n 0, 1) := by decide +kernel
theorem dX12_orderOf_90 : decode cX12_orderOf 90 = .ok (.invokevirtual 334, 3) := by decide +kernel
theorem dX12_orderOf_93 : decode cX12_orderOf 93 = .ok (.goto 4, 3) := by decide +kernel
theorem dX12_orderOf_96 : decode cX12_orderOf 96 = .ok (.iconst (-1), 1) := by decide +kernel
theorem dX12_orderOf_97 : decode cX12_orderOf 97 = .ok (.ireturn, 1) := by decide +kernel
set_option maxRecDepth 100000 in
def F_X12_orderOf_b71 (v0 : Nat) (v2 : Int32) (v4 : Int32) (t0 : Int32) (h : Hp) : Option ((Int32 × Int32 × Int32 × Hp) ⊕ (Int32 × Hp)) :=
  some (.inl (v2, t0, v4 + (1 : Int32), h))
set_option maxHeartbeats 4000000 in
set_option maxRecDepth 100000 in
theorem r_X12_orderOf_b71 (v0 : Nat) (v2 : Int32) (v4 : Int32) (t0 : Int32) (h : Hp) {x : Cx} {o : ((Int32 × Int32 × Int32 × Hp) ⊕ (Int32 × Hp))} (e : F_X12_orderOf_b71 v0 v2 v4 t0 h = some o) (kI : ∀ z, o = .inl z → V M_X12_orderOf x 3 23 [(0, .ref v0), (2, .int z.1), (3, .int z.2.1), (4, .int z.2.2.1)] [] z.2.2.2 0 0) (kE78 : ∀ z : Int32 × Hp, o = .inr z → V M_X12_orderOf x 3 78 [(0, .ref v0), (3, .int z.1)] [] z.2 0 0) : V M_X12_orderOf x 3 71 [(0, .ref v0), (2, .int v2), (4, .int v4)] [.int t0] h 0 0 := by
  unfold F_X12_orderOf_b71 at e
  refine V_istore_n (pc := 71) (i := 3) (lv' := [(3, .int t0), (0, .ref v0), (2, .int v2), (4, .int v4)]) dX12_orderOf_71 rfl (by decide) rfl ?_
  refine V_iinc (pc := 72) (i := 4) (u := v4 + (1 : Int32)) (lv' := [(4, .int (v4 + (1 : Int32))), (3, .int t0), (0, .ref v0), (2, .int v2)]) dX12_orderOf_72 rfl rfl (by decide) rfl ?_
  refine V_goto (pc := 75) (tgt := 23) dX12_orderOf_75 (by decide) ?_
  cases e
  exact V_pick [2, 3, 1, 0] rfl (kI (v2, t0, v4 + (1 : Int32), h) rfl)
set_option maxRecDepth 100000 in
def F_X12_orderOf_b70 (v0 : Nat) (v2 : Int32) (v4 : Int32) (h : Hp) : Option ((Int32 × Int32 × Int32 × Hp) ⊕ (Int32 × Hp)) :=
  F_X12_orderOf_b71 v0 v2 v4 (0 : Int32) h
set_option maxHeartbeats 4000000 in
set_option maxRecDepth 100000 in
theorem r_X12_orderOf_b70 (v0 : Nat) (v2 : Int32) (v4 : Int32) (h : Hp) {x : Cx} {o : ((Int32 × Int32 × Int32 × Hp) ⊕ (Int32 × Hp))} (e : F_X12_orderOf_b70 v0 v2 v4 h = some o) (kI : ∀ z, o = .inl z → V M_X12_orderOf x 3 23 [(0, .ref v0), (2, .int z.1), (3, .int z.2.1), (4, .int z.2.2.1)] [] z.2.2.2 0 0) (kE78 : ∀ z : Int32 × Hp, o = .inr z → V M_X12_orderOf x 3 78 [(0, .ref v0), (3, .int z.1)] [] z.2 0 0) : V M_X12_orderOf x 3 70 [(0, .ref v0), (2, .int v2), (4, .int v4)] [] h 0 0 := by
  unfold F_X12_orderOf_b70 at e
  refine V_iconst (pc := 70) (v := (0 : Int32)) dX12_orderOf_70 (by decide) ?_
  exact V_pick [0, 1, 2] rfl (r_X12_orderOf_b71 v0 v2 v4 (0 : Int32) h e kI kE78)
set_option maxRecDepth 100000 in
def F_X12_orderOf_l23 (v0 : Nat) (v2 : Int32) (v3 : Int32) (v4 : Int32) (h : Hp) : Option ((Int32 × Int32 × Int32 × Hp) ⊕ (Int32 × Hp)) :=
  ob (F_X12_guests v0 h) fun r7 => gd (decide (kd h v0 = 11)) <| (if r7 ≤ v4 then some (.inr (v3, h)) else ob (zR h v0 15) fun q9 => gd (decide (kd h q9 = 13)) <| gd (ix v4 (zl h q9)) <| (if v3 = 0 then F_X12_orderOf_b70 v0 (v2 / (8 : Int32)) v4 (setI h q9 (v4).toNatClampNeg (v2 - v2 / (8 : Int32) * (8 : Int32))) else ob (zR (setI h q9 (v4).toNatClampNeg (v2 - v2 / (8 : Int32) * (8 : Int32))) v0 15) fun q13 => gd (decide (kd (setI h q9 (v4).toNatClampNeg (v2 - v2 / (8 : Int32) * (8 : Int32))) q13 = 13)) <| gd (ix v4 (zl (setI h q9 (v4).toNatClampNeg (v2 - v2 / (8 : Int32) * (8 : Int32))) q13)) <| ob (F_X12_rooms v0 (setI h q9 (v4).toNatClampNeg (v2 - v2 / (8 : Int32) * (8 : Int32)))) fun r18 => (if r18 ≤ (zI (setI h q9 (v4).toNatClampNeg (v2 - v2 / (8 : Int32) * (8 : Int32))) q13 (v4).toNatClampNeg) then F_X12_orderOf_b70 v0 (v2 / (8 : Int32)) v4 (setI h q9 (v4).toNatClampNeg (v2 - v2 / (8 : Int32) * (8 : Int32))) else F_X12_orderOf_b71 v0 (v2 / (8 : Int32)) v4 (1 : Int32) (setI h q9 (v4).toNatClampNeg (v2 - v2 / (8 : Int32) * (8 : Int32))))))
set_option maxHeartbeats 4000000 in
set_option maxRecDepth 100000 in
theorem r_X12_orderOf_l23 (v0 : Nat) (v2 : Int32) (v3 : Int32) (v4 : Int32) (h : Hp) {x : Cx} {o : ((Int32 × Int32 × Int32 × Hp) ⊕ (Int32 × Hp))} (e : F_X12_orderOf_l23 v0 v2 v3 v4 h = some o) (kI : ∀ z, o = .inl z → V M_X12_orderOf x 3 23 [(0, .ref v0), (2, .int z.1), (3, .int z.2.1), (4, .int z.2.2.1)] [] z.2.2.2 0 0) (kE78 : ∀ z : Int32 × Hp, o = .inr z → V M_X12_orderOf x 3 78 [(0, .ref v0), (3, .int z.1)] [] z.2 0 0) : V M_X12_orderOf x 3 23 [(0, .ref v0), (2, .int v2), (3, .int v3), (4, .int v4)] [] h 0 0 := by
  unfold F_X12_orderOf_l23 at e
  refine V_iload (pc := 23) (i := 4) dX12_orderOf_23 rfl ?_
  refine V_aload_n (pc := 25) (i := 0) dX12_orderOf_25 rfl rfl ?_
  obtain ⟨r7, g6, e⟩ := ob_some e
  obtain ⟨g8, e⟩ := gd_some e
  refine V_callV (pc := 26) (bc := 0) (bs := 0) (mc := 0) (ms := 0) (st := [.int v4]) (As := []) (a := v0) (h' := h) (r := some (.int r7)) dX12_orderOf_26 ml_X12_68 (ci := 11) rfl (of_decide_eq_true g8) rfl rfl (Nat.le_of_ble_eq_true rfl) (d' := 0) (by decide) (c_X12_guests (l := x.2.1) v0 h g6) ?_
  refine V_icmp_ge (pc := 29) (tgt := 78) dX12_orderOf_29 (by decide) (fun c21 => ?_) (fun c21 => ?_)
  · rw [if_pos c21] at e
    cases e
    exact V_pick [0, 2] rfl (kE78 (v3, h) rfl)
  · rw [if_neg c21] at e
    refine V_pick [0, 1, 2, 3] rfl ?_
    refine V_aload_n (pc := 32) (i := 0) dX12_orderOf_32 rfl rfl ?_
    obtain ⟨q9, g10, e⟩ := ob_some e
    refine V_getR (pc := 33) (ci := 11) (k := 15) (b := q9) dX12_orderOf_33 fl_X12_36 rfl (of_decide_eq_true g8) g10 ?_
    refine V_iload (pc := 36) (i := 4) dX12_orderOf_36 rfl ?_
    refine V_iload_n (pc := 38) (i := 2) dX12_orderOf_38 rfl rfl ?_
    refine V_bipush (pc := 39) (v := (8 : Int32)) dX12_orderOf_39 (by decide) ?_
    refine V_irem (pc := 41) dX12_orderOf_41 (by decide) ?_
    obtain ⟨g11, e⟩ := gd_some e
    obtain ⟨g12, e⟩ := gd_some e
    refine V_iast (pc := 42) dX12_orderOf_42 (of_decide_eq_true g11) (ix_in g12) ?_
    refine V_iload_n (pc := 43) (i := 2) dX12_orderOf_43 rfl rfl ?_
    refine V_bipush (pc := 44) (v := (8 : Int32)) dX12_orderOf_44 (by decide) ?_
    refine V_idiv (pc := 46) dX12_orderOf_46 (by decide) ?_
    refine V_istore_n (pc := 47) (i := 2) (lv' := [(2, .int (v2 / (8 : Int32))), (0, .ref v0), (3, .int v3), (4, .int v4)]) dX12_orderOf_47 rfl (by decide) rfl ?_
    refine V_iload_n (pc := 48) (i := 3) dX12_orderOf_48 rfl rfl ?_
    refine V_if_eq (pc := 49) (tgt := 70) dX12_orderOf_49 (by decide) (fun c20 => ?_) (fun c20 => ?_)
    · rw [if_pos c20] at e
      exact V_pick [1, 0, 3] rfl (r_X12_orderOf_b70 v0 (v2 / (8 : Int32)) v4 (setI h q9 (v4).toNatClampNeg (v2 - v2 / (8 : Int32) * (8 : Int32))) e kI kE78)
    · rw [if_neg c20] at e
      refine V_pick [1, 0, 3] rfl ?_
      refine V_aload_n (pc := 52) (i := 0) dX12_orderOf_52 rfl rfl ?_
      obtain ⟨q13, g14, e⟩ := ob_some e
      refine V_getR (pc := 53) (ci := 11) (k := 15) (b := q13) dX12_orderOf_53 fl_X12_36 rfl (kd_sI (of_decide_eq_true g8)) g14 ?_
      refine V_iload (pc := 56) (i := 4) dX12_orderOf_56 rfl ?_
      obtain ⟨g15, e⟩ := gd_some e
      obtain ⟨g16, e⟩ := gd_some e
      refine V_iald (pc := 58) dX12_orderOf_58 (of_decide_eq_true g15) (ix_in g16) ?_
      refine V_aload_n (pc := 59) (i := 0) dX12_orderOf_59 rfl rfl ?_
      obtain ⟨r18, g17, e⟩ := ob_some e
      refine V_callV (pc := 60) (bc := 0) (bs := 0) (mc := 0) (ms := 0) (st := [.int (zI (setI h q9 (v4).toNatClampNeg (v2 - v2 / (8 : Int32) * (8 : Int32))) q13 (v4).toNatClampNeg)]) (As := []) (a := v0) (h' := (setI h q9 (v4).toNatClampNeg (v2 - v2 / (8 : Int32) * (8 : Int32)))) (r := some (.int r18)) dX12_orderOf_60 ml_X12_60 (ci := 11) rfl (kd_sI (of_decide_eq_true g8)) rfl rfl (Nat.le_of_ble_eq_true rfl) (d' := 0) (by decide) (c_X12_rooms (l := x.2.1) v0 (setI h q9 (v4).toNatClampNeg (v2 - v2 / (8 : Int32) * (8 : Int32))) g17) ?_
      refine V_icmp_ge (pc := 63) (tgt := 70) dX12_orderOf_63 (by decide) (fun c19 => ?_) (fun c19 => ?_)
      · rw [if_pos c19] at e
        exact V_pick [0, 1, 2] rfl (r_X12_orderOf_b70 v0 (v2 / (8 : Int32)) v4 (setI h q9 (v4).toNatClampNeg (v2 - v2 / (8 : Int32) * (8 : Int32))) e kI kE78)
      · rw [if_neg c19] at e
        refine V_pick [0, 1, 2] rfl ?_
        refine V_iconst (pc := 66) (v := (1 : Int32)) dX12_orderOf_66 (by decide) ?_
        refine V_goto (pc := 67) (tgt := 71) dX12_orderOf_67 (by decide) ?_
        exact V_pick [0, 1, 2] rfl (r_X12_orderOf_b71 v0 (v2 / (8 : Int32)) v4 (1 : Int32) (setI h q9 (v4).toNatClampNeg (v2 - v2 / (8 : Int32) * (8 : Int32))) e kI kE78)
set_option maxRecDepth 100000 in
def F_X12_orderOf_b97 (t0 : Int32) (h : Hp) : Option (Int32 × Hp) :=
  some (t0, h)
set_option maxHeartbeats 4000000 in
set_option maxRecDepth 100000 in
theorem r_X12_orderOf_b97 (t0 : Int32) (h : Hp) {x : Cx} {r : Int32} {hz : Hp} (e : F_X12_orderOf_b97 t0 h = some (r, hz)) (hF : Fin9 M_X12_orderOf x (some .int) (some (.int r)) hz) : V M_X12_orderOf x 3 97 [] [.int t0] h 0 0 := by
  unfold F_X12_orderOf_b97 at e
  cases e
  exact V_iret (pc := 97) dX12_orderOf_97 hF
set_option maxRecDepth 100000 in
def F_X12_orderOf_b96  (h : Hp) : Option (Int32 × Hp) :=
  F_X12_orderOf_b97 (-1 : Int32) h
set_option maxHeartbeats 4000000 in
set_option maxRecDepth 100000 in
theorem r_X12_orderOf_b96  (h : Hp) {x : Cx} {r : Int32} {hz : Hp} (e : F_X12_orderOf_b96  h = some (r, hz)) (hF : Fin9 M_X12_orderOf x (some .int) (some (.int r)) hz) : V M_X12_orderOf x 3 96 [] [] h 0 0 := by
  unfold F_X12_orderOf_b96 at e
  refine V_iconst (pc := 96) (v := (-1 : Int32)) dX12_orderOf_96 (by decide) ?_
  exact V_pick [] rfl (r_X12_orderOf_b97 (-1 : Int32) h e hF)
set_option maxRecDepth 100000 in
def F_X12_orderOf_b0 (v0 : Nat) (v1 : Int32) (h : Hp) : Option (Int32 × Hp) :=
  ob (F_X12_many v0 h) fun r2 => gd (decide (kd h v0 = 11)) <| ob (F_X12_in v1 (0 : Int32) (r2 - (1 : Int32)) h) fun r5 => (if r5 = 0 then some ((-1 : Int32), h) else ob (iter (fun z : Int32 × Int32 × Int32 × Hp => F_X12_orderOf_l23 v0 z.1 z.2.1 z.2.2.1 z.2.2.2) FU (v1, (1 : Int32), (0 : Int32), h)) (fun z => un2 z fun w22 h23 => (if w22 = 0 then F_X12_orderOf_b96 h23 else ob (F_X12_areBeds v0 h23) fun r25 => gd (decide (kd h23 v0 = 11)) <| (if r25 = 0 then F_X12_orderOf_b96 h23 else ob (F_X12_order v0 h23) fun r28 => F_X12_orderOf_b97 r28 h23))))
set_option maxHeartbeats 4000000 in
set_option maxRecDepth 100000 in
theorem r_X12_orderOf_b0 (v0 : Nat) (v1 : Int32) (h : Hp) {x : Cx} {r : Int32} {hz : Hp} (e : F_X12_orderOf_b0 v0 v1 h = some (r, hz)) (hF : Fin9 M_X12_orderOf x (some .int) (some (.int r)) hz) : V M_X12_orderOf x 3 0 [(0, .ref v0), (1, .int v1)] [] h 0 0 := by
  unfold F_X12_orderOf_b0 at e
  refine V_iload_n (pc := 0) (i := 1) dX12_orderOf_0 rfl rfl ?_
  refine V_iconst (pc := 1) (v := (0 : Int32)) dX12_orderOf_1 (by decide) ?_
  refine V_aload_n (pc := 2) (i := 0) dX12_orderOf_2 rfl rfl ?_
  obtain ⟨r2, g1, e⟩ := ob_some e
  obtain ⟨g3, e⟩ := gd_some e
  refine V_callV (pc := 3) (bc := 0) (bs := 0) (mc := 0) (ms := 0) (st := [.int (0 : Int32), .int v1]) (As := []) (a := v0) (h' := h) (r := some (.int r2)) dX12_orderOf_3 ml_X12_337 (ci := 11) rfl (of_decide_eq_true g3) rfl rfl (Nat.le_of_ble_eq_true rfl) (d' := 1) (by decide) (c_X12_many (l := x.2.1) v0 h g1) ?_
  refine V_iconst (pc := 6) (v := (1 : Int32)) dX12_orderOf_6 (by decide) ?_
  refine V_isub (pc := 7) dX12_orderOf_7 ?_
  obtain ⟨r5, g4, e⟩ := ob_some e
  refine V_callS (pc := 8) (bc := 0) (bs := 0) (mc := 0) (ms := 0) (st := []) (As := [.int v1, .int (0 : Int32), .int (r2 - (1 : Int32))]) (h' := h) (r := some (.int r5)) dX12_orderOf_8 ml_X12_64 rfl rfl (Nat.le_of_ble_eq_true rfl) (d' := 0) (by decide) (c_X12_in (l := x.2.1) v1 (0 : Int32) (r2 - (1 : Int32)) h g4) ?_
  refine V_if_ne (pc := 11) (tgt := 16) dX12_orderOf_11 (by decide) (fun c33 => ?_) (fun c33 => ?_)
  · rw [if_neg c33] at e
    refine V_pick [0, 1] rfl ?_
    refine V_iload_n (pc := 16) (i := 1) dX12_orderOf_16 rfl rfl ?_
    refine V_istore_n (pc := 17) (i := 2) (lv' := [(2, .int v1), (0, .ref v0), (1, .int v1)]) dX12_orderOf_17 rfl (by decide) rfl ?_
    refine V_iconst (pc := 18) (v := (1 : Int32)) dX12_orderOf_18 (by decide) ?_
    refine V_istore_n (pc := 19) (i := 3) (lv' := [(3, .int (1 : Int32)), (2, .int v1), (0, .ref v0), (1, .int v1)]) dX12_orderOf_19 rfl (by decide) rfl ?_
    refine V_iconst (pc := 20) (v := (0 : Int32)) dX12_orderOf_20 (by decide) ?_
    refine V_istore (pc := 21) (i := 4) (lv' := [(4, .int (0 : Int32)), (3, .int (1 : Int32)), (2, .int v1), (0, .ref v0), (1, .int v1)]) dX12_orderOf_21 (by decide) rfl ?_
    refine V_pick [3, 2, 1, 0] rfl ?_
    obtain ⟨y31, g32, e⟩ := ob_some e
    refine iter_V (P := fun z : Int32 × Int32 × Int32 × Hp => V M_X12_orderOf x 3 23 [(0, .ref v0), (2, .int z.1), (3, .int z.2.1), (4, .int z.2.2.1)] [] z.2.2.2 0 0) (E := fun z : Int32 × Hp => V M_X12_orderOf x 3 78 [(0, .ref v0), (3, .int z.1)] [] z.2 0 0) (fun z o e9 k1 k2 => r_X12_orderOf_l23 v0 z.1 z.2.1 z.2.2.1 z.2.2.2 e9 (fun z hz9 => k1 z hz9) (fun z hz9 => k2 _ hz9)) _ _ _ g32 ?_
    clear g32
    obtain ⟨w22, h23⟩ := y31
    replace e : ((if w22 = 0 then F_X12_orderOf_b96 h23 else ob (F_X12_areBeds v0 h23) fun r25 => gd (decide (kd h23 v0 = 11)) <| (if r25 = 0 then F_X12_orderOf_b96 h23 else ob (F_X12_order v0 h23) fun r28 => F_X12_orderOf_b97 r28 h23))) = some (r, hz) := e
    show V M_X12_orderOf x 3 78 [(0, .ref v0), (3, .int w22)] [] h23 0 0
    refine V_iload_n (pc := 78) (i := 3) dX12_orderOf_78 rfl rfl ?_
    refine V_if_eq (pc := 79) (tgt := 96) dX12_orderOf_79 (by decide) (fun c30 => ?_) (fun c30 => ?_)
    · rw [if_pos c30] at e
      exact V_pick [] rfl (r_X12_orderOf_b96 h23 e hF)
    · rw [if_neg c30] at e
      refine V_pick [0] rfl ?_
      refine V_aload_n (pc := 82) (i := 0) dX12_orderOf_82 rfl rfl ?_
      obtain ⟨r25, g24, e⟩ := ob_some e
      obtain ⟨g26, e⟩ := gd_some e
      refine V_callV (pc := 83) (bc := 0) (bs := 0) (mc := 0) (ms := 0) (st := []) (As := []) (a := v0) (h' := h23) (r := some (.int r25)) dX12_orderOf_83 ml_X12_331 (ci := 11) rfl (of_decide_eq_true g26) rfl rfl (Nat.le_of_ble_eq_true rfl) (d' := 2) (by decide) (c_X12_areBeds (l := x.2.1) v0 h23 g24) ?_
      refine V_if_eq (pc := 86) (tgt := 96) dX12_orderOf_86 (by decide) (fun c29 => ?_) (fun c29 => ?_)
      · rw [if_pos c29] at e
        exact V_pick [] rfl (r_X12_orderOf_b96 h23 e hF)
      · rw [if_neg c29] at e
        refine V_pick [0] rfl ?_
        refine V_aload_n (pc := 89) (i := 0) dX12_orderOf_89 rfl rfl ?_
        obtain ⟨r28, g27, e⟩ := ob_some e
        refine V_callV (pc := 90) (bc := 0) (bs := 0) (mc := 0) (ms := 0) (st := []) (As := []) (a := v0) (h' := h23) (r := some (.int r28)) dX12_orderOf_90 ml_X12_334 (ci := 11) rfl (of_decide_eq_true g26) rfl rfl (Nat.le_of_ble_eq_true rfl) (d' := 1) (by decide) (c_X12_order (l := x.2.1) v0 h23 g27) ?_
        refine V_goto (pc := 93) (tgt := 97) dX12_orderOf_93 (by decide) ?_
        exact V_pick [] rfl (r_X12_orderOf_b97 r28 h23 e hF)
  · rw [if_pos c33] at e
    refine V_pick [] rfl ?_
    refine V_iconst (pc := 14) (v := (-1 : Int32)) dX12_orderOf_14 (by decide) ?_
    cases e
    exact V_iret (pc := 15) dX12_orderOf_15 hF
def F_X12_orderOf (v0 : Nat) (v1 : Int32) (h : Hp) : Option (Int32 × Hp) := F_X12_orderOf_b0 v0 v1 h
theorem c_X12_orderOf {l : Launch} (v0 : Nat) (v1 : Int32) (h : Hp) {r : Int32} {hz : Hp} (e : F_X12_orderOf v0 v1 h = some (r, hz)) : Ct l yX12_orderOf M_X12_orderOf (some .int) 3 [.ref v0, .int v1] h 0 0 (some (.int r)) hz :=
  Ct_of rfl rfl (fun q => by cases q) (Nat.le_of_ble_eq_true rfl) (fun x _ hF => V_pick [0, 1] rfl (r_X12_orderOf_b0 v0 v1 h e hF))
theorem dX12_firstBell_0 : decode cX12_firstBell 0 = .ok (.iconst 0, 1) := by decide +kernel
theorem dX12_firstBell_1 : decode cX12_firstBell 1 = .ok (.istore_n 3, 1) := by decide +kernel
theorem dX12_firstBell_2 : decode cX12_firstBell 2 = .ok (.iload_n 3, 1) := by decide +kernel
theorem dX12_firstBell_3 : decode cX12_firstBell 3 = .ok (.aload_n 0, 1) := by decide +kernel
theorem dX12_firstBell_4 : decode cX12_firstBell 4 = .ok (.invokevirtual 68, 3) := by decide +kernel
theorem dX12_firstBell_7 : decode cX12_firstBell 7 = .ok (.if_icmp .ge 62, 3) := by decide +kernel
theorem dX12_firstBell_10 : decode cX12_firstBell 10 = .ok (.iconst 0, 1) := by decide +kernel
theorem dX12_firstBell_11 : decode cX12_firstBell 11 = .ok (.istore 4, 2) := by decide +kernel
theorem dX12_firstBell_13 : decode cX12_firstBell 13 = .ok (.iload 4, 2) := by decide +kernel
theorem dX12_firstBell_15 : decode cX12_firstBell 15 = .ok (.aload_n 0, 1) := by decide +kernel
theorem dX12_firstBell_16 : decode cX12_firstBell 16 = .ok (.invokevirtual 60, 3) := by decide +kernel
theorem dX12_firstBell_19 : decode cX12_firstBell 19 = .ok (.if_icmp .ge 44, 3) := by decide +kernel
theorem dX12_firstBell_22 : decode cX12_firstBell 22 = .ok (.aload_n 0, 1) := by decide +kernel
theorem dX12_firstBell_23 : decode cX12_firstBell 23 = .ok (.iload_n 1, 1) := by decide +kernel
theorem dX12_firstBell_24 : decode cX12_firstBell 24 = .ok (.iload_n 3, 1) := by decide +kernel
theorem dX12_firstBell_25 : decode cX12_firstBell 25 = .ok (.iload 4, 2) := by decide +kernel
theorem dX12_firstBell_27 : decode cX12_firstBell 27 = .ok (.invokevirtual 361, 3) := by decide +kernel
theorem dX12_firstBell_30 : decode cX12_firstBell 30 = .ok (.istore 5, 2) := by decide +kernel
theorem dX12_firstBell_32 : decode cX12_firstBell 32 = .ok (.iload 5, 2) := by decide +kernel
theorem dX12_firstBell_34 : decode cX12_firstBell 34 = .ok (.iload_n 1, 1) := by decide +kernel
theorem dX12_firstBell_35 : decode cX12_firstBell 35 = .ok (.if_icmp .eq 22, 3) := by decide +kernel
theorem dX12_firstBell_38 : decode cX12_firstBell 38 = .ok (.aload_n 0, 1) := by decide +kernel
theorem dX12_firstBell_39 : decode cX12_firstBell 39 = .ok (.getfield 50, 3) := by decide +kernel
theorem dX12_firstBell_42 : decode cX12_firstBell 42 = .ok (.iload 5, 2) := by decide +kernel
theorem dX12_firstBell_44 : decode cX12_firstBell 44 = .ok (.iaload, 1) := by decide +kernel
theorem dX12_firstBell_45 : decode cX12_firstBell 45 = .ok (.iload_n 2, 1) := by decide +kernel
theorem dX12_firstBell_46 : decode cX12_firstBell 46 = .ok (.if_icmp .ne 11, 3) := by decide +kernel
theorem dX12_firstBell_49 : decode cX12_firstBell 49 = .ok (.bipush 8, 2) := by decide +kernel
theorem dX12_firstBell_51 : decode cX12_firstBell 51 = .ok (.iload_n 3, 1) := by decide +kernel
theorem dX12_firstBell_52 : decode cX12_firstBell 52 = .ok (.imul, 1) := by decide +kernel
theorem dX12_firstBell_53 : decode cX12_firstBell 53 = .ok (.iload 4, 2) := by decide +kernel
theorem dX12_firstBell_55 : decode cX12_firstBell 55 = .ok (.iadd, 1) := by decide +kernel
theorem dX12_firstBell_56 : decode cX12_firstBell 56 = .ok (.ireturn, 1) := by decide +kernel
theorem dX12_firstBell_57 : decode cX12_firstBell 57 = .ok (.iinc 4 1, 3) := by decide +kernel
theorem dX12_firstBell_60 : decode cX12_firstBell 60 = .ok (.goto (-47), 3) := by decide +kernel
theorem dX12_firstBell_63 : decode cX12_firstBell 63 = .ok (.iinc 3 1, 3) := by decide +kernel
theorem dX12_firstBell_66 : decode cX12_firstBell 66 = .ok (.goto (-64), 3) := by decide +kernel
theorem dX12_firstBell_69 : decode cX12_firstBell 69 = .ok (.iconst (-1), 1) := by decide +kernel
theorem dX12_firstBell_70 : decode cX12_firstBell 70 = .ok (.ireturn, 1) := by decide +kernel
set_option maxRecDepth 100000 in
def F_X12_firstBell_b57 (v0 : Nat) (v1 : Int32) (v2 : Int32) (v3 : Int32) (v4 : Int32) (h : Hp) : Option (Int32 ⊕ (Unit ⊕ Int32)) :=
  some (.inl (v4 + (1 : Int32)))
set_option maxHeartbeats 4000000 in
set_option maxRecDepth 100000 in
theorem r_X12_firstBell_b57 (v0 : Nat) (v1 : Int32) (v2 : Int32) (v3 : Int32) (v4 : Int32) (h : Hp) {x : Cx} {o : (Int32 ⊕ (Unit ⊕ Int32))} (e : F_X12_firstBell_b57 v0 v1 v2 v3 v4 h = some o) (kI : ∀ z, o = .inl z → V M_X12_firstBell x 2 13 [(0, .ref v0), (1, .int v1), (2, .int v2), (3, .int v3), (4, .int z)] [] h 0 0) (kE63 : ∀ z : Unit, o = .inr (.inl z) → V M_X12_firstBell x 2 63 [(0, .ref v0), (1, .int v1), (2, .int v2), (3, .int v3)] [] h 0 0) (kE49 : ∀ z : Int32, o = .inr (.inr z) → V M_X12_firstBell x 2 49 [(3, .int v3), (4, .int z)] [] h 0 0) : V M_X12_firstBell x 2 57 [(0, .ref v0), (1, .int v1), (2, .int v2), (3, .int v3), (4, .int v4)] [] h 0 0 := by
  unfold F_X12_firstBell_b57 at e
  refine V_iinc (pc := 57) (i := 4) (u := v4 + (1 : Int32)) (lv' := [(4, .int (v4 + (1 : Int32))), (0, .ref v0), (1, .int v1), (2, .int v2), (3, .int v3)]) dX12_firstBell_57 rfl rfl (by decide) rfl ?_
  refine V_goto (pc := 60) (tgt := 13) dX12_firstBell_60 (by decide) ?_
  cases e
  exact V_pick [1, 2, 3, 4, 0] rfl (kI (v4 + (1 : Int32)) rfl)
set_option maxRecDepth 100000 in
def F_X12_firstBell_l13 (v0 : Nat) (v1 : Int32) (v2 : Int32) (v3 : Int32) (v4 : Int32) (h : Hp) : Option (Int32 ⊕ (Unit ⊕ Int32)) :=
  ob (F_X12_rooms v0 h) fun r5 => gd (decide (kd h v0 = 11)) <| (if r5 ≤ v4 then some (.inr (.inl ())) else ob (F_X12_sent v0 v1 v3 v4 h) fun r8 => (if r8 = v1 then F_X12_firstBell_b57 v0 v1 v2 v3 v4 h else ob (zR h v0 21) fun q9 => gd (decide (kd h q9 = 13)) <| gd (ix r8 (zl h q9)) <| (if (zI h q9 (r8).toNatClampNeg) = v2 then some (.inr (.inr v4)) else F_X12_firstBell_b57 v0 v1 v2 v3 v4 h)))
set_option maxHeartbeats 4000000 in
set_option maxRecDepth 100000 in
theorem r_X12_firstBell_l13 (v0 : Nat) (v1 : Int32) (v2 : Int32) (v3 : Int32) (v4 : Int32) (h : Hp) {x : Cx} {o : (Int32 ⊕ (Unit ⊕ Int32))} (e : F_X12_firstBell_l13 v0 v1 v2 v3 v4 h = some o) (kI : ∀ z, o = .inl z → V M_X12_firstBell x 2 13 [(0, .ref v0), (1, .int v1), (2, .int v2), (3, .int v3), (4, .int z)] [] h 0 0) (kE63 : ∀ z : Unit, o = .inr (.inl z) → V M_X12_firstBell x 2 63 [(0, .ref v0), (1, .int v1), (2, .int v2), (3, .int v3)] [] h 0 0) (kE49 : ∀ z : Int32, o = .inr (.inr z) → V M_X12_firstBell x 2 49 [(3, .int v3), (4, .int z)] [] h 0 0) : V M_X12_firstBell x 2 13 [(0, .ref v0), (1, .int v1), (2, .int v2), (3, .int v3), (4, .int v4)] [] h 0 0 := by
  unfold F_X12_firstBell_l13 at e
  refine V_iload (pc := 13) (i := 4) dX12_firstBell_13 rfl ?_
  refine V_aload_n (pc := 15) (i := 0) dX12_firstBell_15 rfl rfl ?_
  obtain ⟨r5, g4, e⟩ := ob_some e
  obtain ⟨g6, e⟩ := gd_some e
  refine V_callV (pc := 16) (bc := 0) (bs := 0) (mc := 0) (ms := 0) (st := [.int v4]) (As := []) (a := v0) (h' := h) (r := some (.int r5)) dX12_firstBell_16 ml_X12_60 (ci := 11) rfl (of_decide_eq_true g6) rfl rfl (Nat.le_of_ble_eq_true rfl) (d' := 0) (by decide) (c_X12_rooms (l := x.2.1) v0 h g4) ?_
  refine V_icmp_ge (pc := 19) (tgt := 63) dX12_firstBell_19 (by decide) (fun c15 => ?_) (fun c15 => ?_)
  · rw [if_pos c15] at e
    cases e
    exact V_pick [0, 1, 2, 3] rfl (kE63 () rfl)
  · rw [if_neg c15] at e
    refine V_pick [0, 1, 2, 3, 4] rfl ?_
    refine V_aload_n (pc := 22) (i := 0) dX12_firstBell_22 rfl rfl ?_
    refine V_iload_n (pc := 23) (i := 1) dX12_firstBell_23 rfl rfl ?_
    refine V_iload_n (pc := 24) (i := 3) dX12_firstBell_24 rfl rfl ?_
    refine V_iload (pc := 25) (i := 4) dX12_firstBell_25 rfl ?_
    obtain ⟨r8, g7, e⟩ := ob_some e
    refine V_callV (pc := 27) (bc := 0) (bs := 0) (mc := 0) (ms := 0) (st := []) (As := [.int v1, .int v3, .int v4]) (a := v0) (h' := h) (r := some (.int r8)) dX12_firstBell_27 ml_X12_361 (ci := 11) rfl (of_decide_eq_true g6) rfl rfl (Nat.le_of_ble_eq_true rfl) (d' := 1) (by decide) (c_X12_sent (l := x.2.1) v0 v1 v3 v4 h g7) ?_
    refine V_istore (pc := 30) (i := 5) (lv' := [(5, .int r8), (0, .ref v0), (1, .int v1), (2, .int v2), (3, .int v3), (4, .int v4)]) dX12_firstBell_30 (by decide) rfl ?_
    refine V_iload (pc := 32) (i := 5) dX12_firstBell_32 rfl ?_
    refine V_iload_n (pc := 34) (i := 1) dX12_firstBell_34 rfl rfl ?_
    refine V_icmp_eq (pc := 35) (tgt := 57) dX12_firstBell_35 (by decide) (fun c14 => ?_) (fun c14 => ?_)
    · rw [if_pos c14] at e
      exact V_pick [1, 2, 3, 4, 5] rfl (r_X12_firstBell_b57 v0 v1 v2 v3 v4 h e kI kE63 kE49)
    · rw [if_neg c14] at e
      refine V_pick [1, 2, 3, 4, 5, 0] rfl ?_
      refine V_aload_n (pc := 38) (i := 0) dX12_firstBell_38 rfl rfl ?_
      obtain ⟨q9, g10, e⟩ := ob_some e
      refine V_getR (pc := 39) (ci := 11) (k := 21) (b := q9) dX12_firstBell_39 fl_X12_50 rfl (of_decide_eq_true g6) g10 ?_
      refine V_iload (pc := 42) (i := 5) dX12_firstBell_42 rfl ?_
      obtain ⟨g11, e⟩ := gd_some e
      obtain ⟨g12, e⟩ := gd_some e
      refine V_iald (pc := 44) dX12_firstBell_44 (of_decide_eq_true g11) (ix_in g12) ?_
      refine V_iload_n (pc := 45) (i := 2) dX12_firstBell_45 rfl rfl ?_
      refine V_icmp_ne (pc := 46) (tgt := 57) dX12_firstBell_46 (by decide) (fun c13 => ?_) (fun c13 => ?_)
      · rw [if_neg c13] at e
        exact V_pick [0, 1, 2, 3, 4] rfl (r_X12_firstBell_b57 v0 v1 v2 v3 v4 h e kI kE63 kE49)
      · rw [if_pos c13] at e
        cases e
        exact V_pick [3, 4] rfl (kE49 v4 rfl)
set_option maxRecDepth 100000 in
def F_X12_firstBell_l2 (v0 : Nat) (v1 : Int32) (v2 : Int32) (v3 : Int32) (h : Hp) : Option (Int32 ⊕ (Unit ⊕ (Int32 × Int32))) :=
  ob (F_X12_guests v0 h) fun r2 => gd (decide (kd h v0 = 11)) <| (if r2 ≤ v3 then some (.inr (.inl ())) else ob (iter (fun z : Int32 => F_X12_firstBell_l13 v0 v1 v2 v3 z h) FU (0 : Int32)) (fun z => sm z (fun _ => some (.inl (v3 + (1 : Int32)))) (fun w16 => some (.inr (.inr (v3, w16))))))
set_option maxHeartbeats 4000000 in
set_option maxRecDepth 100000 in
theorem r_X12_firstBell_l2 (v0 : Nat) (v1 : Int32) (v2 : Int32) (v3 : Int32) (h : Hp) {x : Cx} {o : (Int32 ⊕ (Unit ⊕ (Int32 × Int32)))} (e : F_X12_firstBell_l2 v0 v1 v2 v3 h = some o) (kI : ∀ z, o = .inl z → V M_X12_firstBell x 2 2 [(0, .ref v0), (1, .int v1), (2, .int v2), (3, .int z)] [] h 0 0) (kE69 : ∀ z : Unit, o = .inr (.inl z) → V M_X12_firstBell x 2 69 [] [] h 0 0) (kE49 : ∀ z : Int32 × Int32, o = .inr (.inr z) → V M_X12_firstBell x 2 49 [(3, .int z.1), (4, .int z.2)] [] h 0 0) : V M_X12_firstBell x 2 2 [(0, .ref v0), (1, .int v1), (2, .int v2), (3, .int v3)] [] h 0 0 := by
  unfold F_X12_firstBell_l2 at e
  refine V_iload_n (pc := 2) (i := 3) dX12_firstBell_2 rfl rfl ?_
  refine V_aload_n (pc := 3) (i := 0) dX12_firstBell_3 rfl rfl ?_
  obtain ⟨r2, g1, e⟩ := ob_some e
  obtain ⟨g3, e⟩ := gd_some e
  refine V_callV (pc := 4) (bc := 0) (bs := 0) (mc := 0) (ms := 0) (st := [.int v3]) (As := []) (a := v0) (h' := h) (r := some (.int r2)) dX12_firstBell_4 ml_X12_68 (ci := 11) rfl (of_decide_eq_true g3) rfl rfl (Nat.le_of_ble_eq_true rfl) (d' := 0) (by decide) (c_X12_guests (l := x.2.1) v0 h g1) ?_
  refine V_icmp_ge (pc := 7) (tgt := 69) dX12_firstBell_7 (by decide) (fun c21 => ?_) (fun c21 => ?_)
  · rw [if_pos c21] at e
    cases e
    exact V_pick [] rfl (kE69 () rfl)
  · rw [if_neg c21] at e
    refine V_pick [0, 1, 2, 3] rfl ?_
    refine V_iconst (pc := 10) (v := (0 : Int32)) dX12_firstBell_10 (by decide) ?_
    refine V_istore (pc := 11) (i := 4) (lv' := [(4, .int (0 : Int32)), (0, .ref v0), (1, .int v1), (2, .int v2), (3, .int v3)]) dX12_firstBell_11 (by decide) rfl ?_
    refine V_pick [1, 2, 3, 4, 0] rfl ?_
    obtain ⟨y17, g18, e⟩ := ob_some e
    refine iter_V (P := fun z : Int32 => V M_X12_firstBell x 2 13 [(0, .ref v0), (1, .int v1), (2, .int v2), (3, .int v3), (4, .int z)] [] h 0 0) (E := fun z => Sum.elim (fun z : Unit => V M_X12_firstBell x 2 63 [(0, .ref v0), (1, .int v1), (2, .int v2), (3, .int v3)] [] h 0 0) (fun z : Int32 => V M_X12_firstBell x 2 49 [(3, .int v3), (4, .int z)] [] h 0 0) z) (fun z o e9 k1 k2 => r_X12_firstBell_l13 v0 v1 v2 v3 z h e9 (fun z hz9 => k1 z hz9) (fun z hz9 => k2 _ hz9) (fun z hz9 => k2 _ hz9)) _ _ _ g18 ?_
    clear g18
    rcases y17 with y19 | y20
    · replace e : (some (.inl (v3 + (1 : Int32)))) = some o := e
      show V M_X12_firstBell x 2 63 [(0, .ref v0), (1, .int v1), (2, .int v2), (3, .int v3)] [] h 0 0
      refine V_iinc (pc := 63) (i := 3) (u := v3 + (1 : Int32)) (lv' := [(3, .int (v3 + (1 : Int32))), (0, .ref v0), (1, .int v1), (2, .int v2)]) dX12_firstBell_63 rfl rfl (by decide) rfl ?_
      refine V_goto (pc := 66) (tgt := 2) dX12_firstBell_66 (by decide) ?_
      cases e
      exact V_pick [1, 2, 3, 0] rfl (kI (v3 + (1 : Int32)) rfl)
    · obtain ⟨w16, rfl⟩ : ∃ q, q = y20 := ⟨_, rfl⟩
      replace e : (some (.inr (.inr (v3, w16)))) = some o := e
      show V M_X12_firstBell x 2 49 [(3, .int v3), (4, .int w16)] [] h 0 0
      cases e
      exact V_pick [0, 1] rfl (kE49 (v3, w16) rfl)
set_option maxRecDepth 100000 in
def F_X12_firstBell_b0 (v0 : Nat) (v1 : Int32) (v2 : Int32) (h : Hp) : Option Int32 :=
  ob (iter (fun z : Int32 => F_X12_firstBell_l2 v0 v1 v2 z h) FU (0 : Int32)) (fun z => sm z (fun _ => some (-1 : Int32)) (fun z => un2 z fun w22 w23 => some (((8 : Int32) * w22) + w23)))
set_option maxHeartbeats 4000000 in
set_option maxRecDepth 100000 in
theorem r_X12_firstBell_b0 (v0 : Nat) (v1 : Int32) (v2 : Int32) (h : Hp) {x : Cx} {r : Int32} (e : F_X12_firstBell_b0 v0 v1 v2 h = some r) (hF : Fin9 M_X12_firstBell x (some .int) (some (.int r)) h) : V M_X12_firstBell x 2 0 [(0, .ref v0), (1, .int v1), (2, .int v2)] [] h 0 0 := by
  unfold F_X12_firstBell_b0 at e
  refine V_iconst (pc := 0) (v := (0 : Int32)) dX12_firstBell_0 (by decide) ?_
  refine V_istore_n (pc := 1) (i := 3) (lv' := [(3, .int (0 : Int32)), (0, .ref v0), (1, .int v1), (2, .int v2)]) dX12_firstBell_1 rfl (by decide) rfl ?_
  refine V_pick [1, 2, 3, 0] rfl ?_
  obtain ⟨y24, g25, e⟩ := ob_some e
  refine iter_V (P := fun z : Int32 => V M_X12_firstBell x 2 2 [(0, .ref v0), (1, .int v1), (2, .int v2), (3, .int z)] [] h 0 0) (E := fun z => Sum.elim (fun z : Unit => V M_X12_firstBell x 2 69 [] [] h 0 0) (fun z : Int32 × Int32 => V M_X12_firstBell x 2 49 [(3, .int z.1), (4, .int z.2)] [] h 0 0) z) (fun z o e9 k1 k2 => r_X12_firstBell_l2 v0 v1 v2 z h e9 (fun z hz9 => k1 z hz9) (fun z hz9 => k2 _ hz9) (fun z hz9 => k2 _ hz9)) _ _ _ g25 ?_
  clear g25
  rcases y24 with y26 | y27
  · replace e : (some (-1 : Int32)) = some r := e
    show V M_X12_firstBell x 2 69 [] [] h 0 0
    refine V_iconst (pc := 69) (v := (-1 : Int32)) dX12_firstBell_69 (by decide) ?_
    cases e
    exact V_iret (pc := 70) dX12_firstBell_70 hF
  · obtain ⟨w22, w23⟩ := y27
    replace e : (some (((8 : Int32) * w22) + w23)) = some r := e
    show V M_X12_firstBell x 2 49 [(3, .int w22), (4, .int w23)] [] h 0 0
    refine V_bipush (pc := 49) (v := (8 : Int32)) dX12_firstBell_49 (by decide) ?_
    refine V_iload_n (pc := 51) (i := 3) dX12_firstBell_51 rfl rfl ?_
    refine V_imul (pc := 52) dX12_firstBell_52 ?_
    refine V_iload (pc := 53) (i := 4) dX12_firstBell_53 rfl ?_
    refine V_iadd (pc := 55) dX12_firstBell_55 ?_
    cases e
    exact V_iret (pc := 56) dX12_firstBell_56 hF
def F_X12_firstBell (v0 : Nat) (v1 : Int32) (v2 : Int32) (h : Hp) : Option Int32 := F_X12_firstBell_b0 v0 v1 v2 h
theorem c_X12_firstBell {l : Launch} (v0 : Nat) (v1 : Int32) (v2 : Int32) (h : Hp) {r : Int32} (e : F_X12_firstBell v0 v1 v2 h = some r) : Ct l yX12_firstBell M_X12_firstBell (some .int) 2 [.ref v0, .int v1, .int v2] h 0 0 (some (.int r)) h :=
  Ct_of rfl rfl (fun q => by cases q) (Nat.le_of_ble_eq_true rfl) (fun x _ hF => V_pick [0, 1, 2] rfl (r_X12_firstBell_b0 v0 v1 v2 h e hF))
theorem dX12_isLevelWith_0 : decode cX12_isLevelWith 0 = .ok (.aload_n 0, 1) := by decide +kernel
theorem dX12_isLevelWith_1 : decode cX12_isLevelWith 1 = .ok (.iconst 0, 1) := by decide +kernel
theorem dX12_isLevelWith_2 : decode cX12_isLevelWith 2 = .ok (.aload_n 0, 1) := by decide +kernel
theorem dX12_isLevelWith_3 : decode cX12_isLevelWith 3 = .ok (.iconst 0, 1) := by decide +kernel
theorem dX12_isLevelWith_4 : decode cX12_isLevelWith 4 = .ok (.iload_n 1, 1) := by decide +kernel
theorem dX12_isLevelWith_5 : decode cX12_isLevelWith 5 = .ok (.invokevirtual 259, 3) := by decide +kernel
theorem dX12_isLevelWith_8 : decode cX12_isLevelWith 8 = .ok (.aload_n 0, 1) := by decide +kernel
theorem dX12_isLevelWith_9 : decode cX12_isLevelWith 9 = .ok (.iconst 0, 1) := by decide +kernel
theorem dX12_isLevelWith_10 : decode cX12_isLevelWith 10 = .ok (.invokevirtual 262, 3) := by decide +kernel
theorem dX12_isLevelWith_13 : decode cX12_isLevelWith 13 = .ok (.iadd, 1) := by decide +kernel
theorem dX12_isLevelWith_14 : decode cX12_isLevelWith 14 = .ok (.invokevirtual 281, 3) := by decide +kernel
theorem dX12_isLevelWith_17 : decode cX12_isLevelWith 17 = .ok (.ifCond .eq 27, 3) := by decide +kernel
theorem dX12_isLevelWith_20 : decode cX12_isLevelWith 20 = .ok (.aload_n 0, 1) := by decide +kernel
theorem dX12_isLevelWith_21 : decode cX12_isLevelWith 21 = .ok (.iconst 1, 1) := by decide +kernel
theorem dX12_isLevelWith_22 : decode cX12_isLevelWith 22 = .ok (.aload_n 0, 1) := by decide +kernel
theorem dX12_isLevelWith_23 : decode cX12_isLevelWith 23 = .ok (.iconst 1, 1) := by decide +kernel
theorem dX12_isLevelWith_24 : decode cX12_isLevelWith 24 = .ok (.iload_n 1, 1) := by decide +kernel
theorem dX12_isLevelWith_25 : decode cX12_isLevelWith 25 = .ok (.invokevirtual 259, 3) := by decide +kernel
theorem dX12_isLevelWith_28 : decode cX12_isLevelWith 28 = .ok (.aload_n 0, 1) := by decide +kernel
theorem dX12_isLevelWith_29 : decode cX12_isLevelWith 29 = .ok (.iconst 1, 1) := by decide +kernel
theorem dX12_isLevelWith_30 : decode cX12_isLevelWith 30 = .ok (.invokevirtual 262, 3) := by decide +kernel
theorem dX12_isLevelWith_33 : decode cX12_isLevelWith 33 = .ok (.iadd, 1) := by decide +kernel
theorem dX12_isLevelWith_34 : decode cX12_isLevelWith 34 = .ok (.invokevirtual 281, 3) := by decide +kernel
theorem dX12_isLevelWith_37 : decode cX12_isLevelWith 37 = .ok (.ifCond .eq 7, 3) := by decide +kernel
theorem dX12_isLevelWith_40 : decode cX12_isLevelWith 40 = .ok (.iconst 1, 1) := by decide +kernel
theorem dX12_isLevelWith_41 : decode cX12_isLevelWith 41 = .ok (.goto 4, 3) := by decide +kernel
theorem dX12_isLevelWith_44 : decode cX12_isLevelWith 44 = .ok (.iconst 0, 1) := by decide +kernel
theorem dX12_isLevelWith_45 : decode cX12_isLevelWith 45 = .ok (.ireturn, 1) := by decide +kernel
set_option maxRecDepth 100000 in
def F_X12_isLevelWith_b45 (t0 : Int32) (h : Hp) : Option Int32 :=
  gd (decide (t0 = 0 ∨ t0 = 1)) <| some t0
set_option maxHeartbeats 4000000 in
set_option maxRecDepth 100000 in
theorem r_X12_isLevelWith_b45 (t0 : Int32) (h : Hp) {x : Cx} {r : Int32} (e : F_X12_isLevelWith_b45 t0 h = some r) (hF : Fin9 M_X12_isLevelWith x (some .boolean) (some (.int r)) h) : V M_X12_isLevelWith x 4 45 [] [.int t0] h 0 0 := by
  unfold F_X12_isLevelWith_b45 at e
  obtain ⟨g8, e⟩ := gd_some e
  cases e
  exact V_zret (pc := 45) dX12_isLevelWith_45 (z01 (of_decide_eq_true g8)) hF
set_option maxRecDepth 100000 in
def F_X12_isLevelWith_b44  (h : Hp) : Option Int32 :=
  F_X12_isLevelWith_b45 (0 : Int32) h
set_option maxHeartbeats 4000000 in
set_option maxRecDepth 100000 in
theorem r_X12_isLevelWith_b44  (h : Hp) {x : Cx} {r : Int32} (e : F_X12_isLevelWith_b44  h = some r) (hF : Fin9 M_X12_isLevelWith x (some .boolean) (some (.int r)) h) : V M_X12_isLevelWith x 4 44 [] [] h 0 0 := by
  unfold F_X12_isLevelWith_b44 at e
  refine V_iconst (pc := 44) (v := (0 : Int32)) dX12_isLevelWith_44 (by decide) ?_
  exact V_pick [] rfl (r_X12_isLevelWith_b45 (0 : Int32) h e hF)
set_option maxRecDepth 100000 in
def F_X12_isLevelWith_b0 (v0 : Nat) (v1 : Int32) (h : Hp) : Option Int32 :=
  ob (F_X12_netWithout v0 (0 : Int32) v1 h) fun r2 => gd (decide (kd h v0 = 11)) <| ob (F_X12_guestsBy v0 (0 : Int32) h) fun r5 => ob (F_X12_isLevelBy v0 (0 : Int32) (r2 + r5) h) fun r7 => (if r7 = 0 then F_X12_isLevelWith_b44 h else ob (F_X12_netWithout v0 (1 : Int32) v1 h) fun r10 => ob (F_X12_guestsBy v0 (1 : Int32) h) fun r12 => ob (F_X12_isLevelBy v0 (1 : Int32) (r10 + r12) h) fun r14 => (if r14 = 0 then F_X12_isLevelWith_b44 h else F_X12_isLevelWith_b45 (1 : Int32) h))
set_option maxHeartbeats 4000000 in
set_option maxRecDepth 100000 in
theorem r_X12_isLevelWith_b0 (v0 : Nat) (v1 : Int32) (h : Hp) {x : Cx} {r : Int32} (e : F_X12_isLevelWith_b0 v0 v1 h = some r) (hF : Fin9 M_X12_isLevelWith x (some .boolean) (some (.int r)) h) : V M_X12_isLevelWith x 4 0 [(0, .ref v0), (1, .int v1)] [] h 0 0 := by
  unfold F_X12_isLevelWith_b0 at e
  refine V_aload_n (pc := 0) (i := 0) dX12_isLevelWith_0 rfl rfl ?_
  refine V_iconst (pc := 1) (v := (0 : Int32)) dX12_isLevelWith_1 (by decide) ?_
  refine V_aload_n (pc := 2) (i := 0) dX12_isLevelWith_2 rfl rfl ?_
  refine V_iconst (pc := 3) (v := (0 : Int32)) dX12_isLevelWith_3 (by decide) ?_
  refine V_iload_n (pc := 4) (i := 1) dX12_isLevelWith_4 rfl rfl ?_
  obtain ⟨r2, g1, e⟩ := ob_some e
  obtain ⟨g3, e⟩ := gd_some e
  refine V_callV (pc := 5) (bc := 0) (bs := 0) (mc := 0) (ms := 0) (st := [.int (0 : Int32), .ref v0]) (As := [.int (0 : Int32), .int v1]) (a := v0) (h' := h) (r := some (.int r2)) dX12_isLevelWith_5 ml_X12_259 (ci := 11) rfl (of_decide_eq_true g3) rfl rfl (Nat.le_of_ble_eq_true rfl) (d' := 3) (by decide) (c_X12_netWithout (l := x.2.1) v0 (0 : Int32) v1 h g1) ?_
  refine V_aload_n (pc := 8) (i := 0) dX12_isLevelWith_8 rfl rfl ?_
  refine V_iconst (pc := 9) (v := (0 : Int32)) dX12_isLevelWith_9 (by decide) ?_
  obtain ⟨r5, g4, e⟩ := ob_some e
  refine V_callV (pc := 10) (bc := 0) (bs := 0) (mc := 0) (ms := 0) (st := [.int r2, .int (0 : Int32), .ref v0]) (As := [.int (0 : Int32)]) (a := v0) (h' := h) (r := some (.int r5)) dX12_isLevelWith_10 ml_X12_262 (ci := 11) rfl (of_decide_eq_true g3) rfl rfl (Nat.le_of_ble_eq_true rfl) (d' := 1) (by decide) (c_X12_guestsBy (l := x.2.1) v0 (0 : Int32) h g4) ?_
  refine V_iadd (pc := 13) dX12_isLevelWith_13 ?_
  obtain ⟨r7, g6, e⟩ := ob_some e
  refine V_callV (pc := 14) (bc := 0) (bs := 0) (mc := 0) (ms := 0) (st := []) (As := [.int (0 : Int32), .int (r2 + r5)]) (a := v0) (h' := h) (r := some (.int r7)) dX12_isLevelWith_14 ml_X12_281 (ci := 11) rfl (of_decide_eq_true g3) rfl rfl (Nat.le_of_ble_eq_true rfl) (d' := 2) (by decide) (c_X12_isLevelBy (l := x.2.1) v0 (0 : Int32) (r2 + r5) h g6) ?_
  refine V_if_eq (pc := 17) (tgt := 44) dX12_isLevelWith_17 (by decide) (fun c16 => ?_) (fun c16 => ?_)
  · rw [if_pos c16] at e
    exact V_pick [] rfl (r_X12_isLevelWith_b44 h e hF)
  · rw [if_neg c16] at e
    refine V_pick [0, 1] rfl ?_
    refine V_aload_n (pc := 20) (i := 0) dX12_isLevelWith_20 rfl rfl ?_
    refine V_iconst (pc := 21) (v := (1 : Int32)) dX12_isLevelWith_21 (by decide) ?_
    refine V_aload_n (pc := 22) (i := 0) dX12_isLevelWith_22 rfl rfl ?_
    refine V_iconst (pc := 23) (v := (1 : Int32)) dX12_isLevelWith_23 (by decide) ?_
    refine V_iload_n (pc := 24) (i := 1) dX12_isLevelWith_24 rfl rfl ?_
    obtain ⟨r10, g9, e⟩ := ob_some e
    refine V_callV (pc := 25) (bc := 0) (bs := 0) (mc := 0) (ms := 0) (st := [.int (1 : Int32), .ref v0]) (As := [.int (1 : Int32), .int v1]) (a := v0) (h' := h) (r := some (.int r10)) dX12_isLevelWith_25 ml_X12_259 (ci := 11) rfl (of_decide_eq_true g3) rfl rfl (Nat.le_of_ble_eq_true rfl) (d' := 3) (by decide) (c_X12_netWithout (l := x.2.1) v0 (1 : Int32) v1 h g9) ?_
    refine V_aload_n (pc := 28) (i := 0) dX12_isLevelWith_28 rfl rfl ?_
    refine V_iconst (pc := 29) (v := (1 : Int32)) dX12_isLevelWith_29 (by decide) ?_
    obtain ⟨r12, g11, e⟩ := ob_some e
    refine V_callV (pc := 30) (bc := 0) (bs := 0) (mc := 0) (ms := 0) (st := [.int r10, .int (1 : Int32), .ref v0]) (As := [.int (1 : Int32)]) (a := v0) (h' := h) (r := some (.int r12)) dX12_isLevelWith_30 ml_X12_262 (ci := 11) rfl (of_decide_eq_true g3) rfl rfl (Nat.le_of_ble_eq_true rfl) (d' := 1) (by decide) (c_X12_guestsBy (l := x.2.1) v0 (1 : Int32) h g11) ?_
    refine V_iadd (pc := 33) dX12_isLevelWith_33 ?_
    obtain ⟨r14, g13, e⟩ := ob_some e
    refine V_callV (pc := 34) (bc := 0) (bs := 0) (mc := 0) (ms := 0) (st := []) (As := [.int (1 : Int32), .int (r10 + r12)]) (a := v0) (h' := h) (r := some (.int r14)) dX12_isLevelWith_34 ml_X12_281 (ci := 11) rfl (of_decide_eq_true g3) rfl rfl (Nat.le_of_ble_eq_true rfl) (d' := 2) (by decide) (c_X12_isLevelBy (l := x.2.1) v0 (1 : Int32) (r10 + r12) h g13) ?_
    refine V_if_eq (pc := 37) (tgt := 44) dX12_isLevelWith_37 (by decide) (fun c15 => ?_) (fun c15 => ?_)
    · rw [if_pos c15] at e
      exact V_pick [] rfl (r_X12_isLevelWith_b44 h e hF)
    · rw [if_neg c15] at e
      refine V_pick [] rfl ?_
      refine V_iconst (pc := 40) (v := (1 : Int32)) dX12_isLevelWith_40 (by decide) ?_
      refine V_goto (pc := 41) (tgt := 45) dX12_isLevelWith_41 (by decide) ?_
      exact V_pick [] rfl (r_X12_isLevelWith_b45 (1 : Int32) h e hF)
def F_X12_isLevelWith (v0 : Nat) (v1 : Int32) (h : Hp) : Option Int32 := F_X12_isLevelWith_b0 v0 v1 h
theorem c_X12_isLevelWith {l : Launch} (v0 : Nat) (v1 : Int32) (h : Hp) {r : Int32} (e : F_X12_isLevelWith v0 v1 h = some r) : Ct l yX12_isLevelWith M_X12_isLevelWith (some .boolean) 4 [.ref v0, .int v1] h 0 0 (some (.int r)) h :=
  Ct_of rfl rfl (fun q => by cases q) (Nat.le_of_ble_eq_true rfl) (fun x _ hF => V_pick [0, 1] rfl (r_X12_isLevelWith_b0 v0 v1 h e hF))
theorem dX12_isStep_0 : decode cX12_isStep 0 = .ok (.aload_n 0, 1) := by decide +kernel
theorem dX12_isStep_1 : decode cX12_isStep 1 = .ok (.iload_n 1, 1) := by decide +kernel
theorem dX12_isStep_2 : decode cX12_isStep 2 = .ok (.iconst 0, 1) := by decide +kernel
theorem dX12_isStep_3 : decode cX12_isStep 3 = .ok (.invokevirtual 131, 3) := by decide +kernel
theorem dX12_isStep_6 : decode cX12_isStep 6 = .ok (.aload_n 0, 1) := by decide +kernel
theorem dX12_isStep_7 : decode cX12_isStep 7 = .ok (.iload_n 2, 1) := by decide +kernel
theorem dX12_isStep_8 : decode cX12_isStep 8 = .ok (.iconst 0, 1) := by decide +kernel
theorem dX12_isStep_9 : decode cX12_isStep 9 = .ok (.invokevirtual 131, 3) := by decide +kernel
theorem dX12_isStep_12 : decode cX12_isStep 12 = .ok (.isub, 1) := by decide +kernel
theorem dX12_isStep_13 : decode cX12_isStep 13 = .ok (.aload_n 0, 1) := by decide +kernel
theorem dX12_isStep_14 : decode cX12_isStep 14 = .ok (.iload_n 1, 1) := by decide +kernel
theorem dX12_isStep_15 : decode cX12_isStep 15 = .ok (.iconst 1, 1) := by decide +kernel
theorem dX12_isStep_16 : decode cX12_isStep 16 = .ok (.invokevirtual 131, 3) := by decide +kernel
theorem dX12_isStep_19 : decode cX12_isStep 19 = .ok (.aload_n 0, 1) := by decide +kernel
theorem dX12_isStep_20 : decode cX12_isStep 20 = .ok (.iload_n 2, 1) := by decide +kernel
theorem dX12_isStep_21 : decode cX12_isStep 21 = .ok (.iconst 1, 1) := by decide +kernel
theorem dX12_isStep_22 : decode cX12_isStep 22 = .ok (.invokevirtual 131, 3) := by decide +kernel
theorem dX12_isStep_25 : decode cX12_isStep 25 = .ok (.isub, 1) := by decide +kernel
theorem dX12_isStep_26 : decode cX12_isStep 26 = .ok (.invokestatic 284, 3) := by decide +kernel
theorem dX12_isStep_29 : decode cX12_isStep 29 = .ok (.iconst 1, 1) := by decide +kernel
theorem dX12_isStep_30 : decode cX12_isStep 30 = .ok (.if_icmp .ne 7, 3) := by decide +kernel
theorem dX12_isStep_33 : decode cX12_isStep 33 = .ok (.iconst 1, 1) := by decide +kernel
theorem dX12_isStep_34 : decode cX12_isStep 34 = .ok (.goto 4, 3) := by decide +kernel
theorem dX12_isStep_37 : decode cX12_isStep 37 = .ok (.iconst 0, 1) := by decide +kernel
theorem dX12_isStep_38 : decode cX12_isStep 38 = .ok (.ireturn, 1) := by decide +kernel
set_option maxRecDepth 100000 in
def F_X12_isStep_b38 (t0 : Int32) (h : Hp) : Option Int32 :=
  gd (decide (t0 = 0 ∨ t0 = 1)) <| some t0
set_option maxHeartbeats 4000000 in
set_option maxRecDepth 100000 in
theorem r_X12_isStep_b38 (t0 : Int32) (h : Hp) {x : Cx} {r : Int32} (e : F_X12_isStep_b38 t0 h = some r) (hF : Fin9 M_X12_isStep x (some .boolean) (some (.int r)) h) : V M_X12_isStep x 2 38 [] [.int t0] h 0 0 := by
  unfold F_X12_isStep_b38 at e
  obtain ⟨g12, e⟩ := gd_some e
  cases e
  exact V_zret (pc := 38) dX12_isStep_38 (z01 (of_decide_eq_true g12)) hF
set_option maxRecDepth 100000 in
def F_X12_isStep_b0 (v0 : Nat) (v1 : Int32) (v2 : Int32) (h : Hp) : Option Int32 :=
  ob (F_X12_ofRoom v0 v1 (0 : Int32) h) fun r2 => gd (decide (kd h v0 = 11)) <| ob (F_X12_ofRoom v0 v2 (0 : Int32) h) fun r5 => ob (F_X12_ofRoom v0 v1 (1 : Int32) h) fun r7 => ob (F_X12_ofRoom v0 v2 (1 : Int32) h) fun r9 => ob (F_X12_farOf (r2 - r5) (r7 - r9) h) fun r11 => (if r11 = (1 : Int32) then F_X12_isStep_b38 (1 : Int32) h else F_X12_isStep_b38 (0 : Int32) h)
set_option maxHeartbeats 4000000 in
set_option maxRecDepth 100000 in
theorem r_X12_isStep_b0 (v0 : Nat) (v1 : Int32) (v2 : Int32) (h : Hp) {x : Cx} {r : Int32} (e : F_X12_isStep_b0 v0 v1 v2 h = some r) (hF : Fin9 M_X12_isStep x (some .boolean) (some (.int r)) h) : V M_X12_isStep x 2 0 [(0, .ref v0), (1, .int v1), (2, .int v2)] [] h 0 0 := by
  unfold F_X12_isStep_b0 at e
  refine V_aload_n (pc := 0) (i := 0) dX12_isStep_0 rfl rfl ?_
  refine V_iload_n (pc := 1) (i := 1) dX12_isStep_1 rfl rfl ?_
  refine V_iconst (pc := 2) (v := (0 : Int32)) dX12_isStep_2 (by decide) ?_
  obtain ⟨r2, g1, e⟩ := ob_some e
  obtain ⟨g3, e⟩ := gd_some e
  refine V_callV (pc := 3) (bc := 0) (bs := 0) (mc := 0) (ms := 0) (st := []) (As := [.int v1, .int (0 : Int32)]) (a := v0) (h' := h) (r := some (.int r2)) dX12_isStep_3 ml_X12_131 (ci := 11) rfl (of_decide_eq_true g3) rfl rfl (Nat.le_of_ble_eq_true rfl) (d' := 0) (by decide) (c_X12_ofRoom (l := x.2.1) v0 v1 (0 : Int32) h g1) ?_
  refine V_aload_n (pc := 6) (i := 0) dX12_isStep_6 rfl rfl ?_
  refine V_iload_n (pc := 7) (i := 2) dX12_isStep_7 rfl rfl ?_
  refine V_iconst (pc := 8) (v := (0 : Int32)) dX12_isStep_8 (by decide) ?_
  obtain ⟨r5, g4, e⟩ := ob_some e
  refine V_callV (pc := 9) (bc := 0) (bs := 0) (mc := 0) (ms := 0) (st := [.int r2]) (As := [.int v2, .int (0 : Int32)]) (a := v0) (h' := h) (r := some (.int r5)) dX12_isStep_9 ml_X12_131 (ci := 11) rfl (of_decide_eq_true g3) rfl rfl (Nat.le_of_ble_eq_true rfl) (d' := 0) (by decide) (c_X12_ofRoom (l := x.2.1) v0 v2 (0 : Int32) h g4) ?_
  refine V_isub (pc := 12) dX12_isStep_12 ?_
  refine V_aload_n (pc := 13) (i := 0) dX12_isStep_13 rfl rfl ?_
  refine V_iload_n (pc := 14) (i := 1) dX12_isStep_14 rfl rfl ?_
  refine V_iconst (pc := 15) (v := (1 : Int32)) dX12_isStep_15 (by decide) ?_
  obtain ⟨r7, g6, e⟩ := ob_some e
  refine V_callV (pc := 16) (bc := 0) (bs := 0) (mc := 0) (ms := 0) (st := [.int (r2 - r5)]) (As := [.int v1, .int (1 : Int32)]) (a := v0) (h' := h) (r := some (.int r7)) dX12_isStep_16 ml_X12_131 (ci := 11) rfl (of_decide_eq_true g3) rfl rfl (Nat.le_of_ble_eq_true rfl) (d' := 0) (by decide) (c_X12_ofRoom (l := x.2.1) v0 v1 (1 : Int32) h g6) ?_
  refine V_aload_n (pc := 19) (i := 0) dX12_isStep_19 rfl rfl ?_
  refine V_iload_n (pc := 20) (i := 2) dX12_isStep_20 rfl rfl ?_
  refine V_iconst (pc := 21) (v := (1 : Int32)) dX12_isStep_21 (by decide) ?_
  obtain ⟨r9, g8, e⟩ := ob_some e
  refine V_callV (pc := 22) (bc := 0) (bs := 0) (mc := 0) (ms := 0) (st := [.int r7, .int (r2 - r5)]) (As := [.int v2, .int (1 : Int32)]) (a := v0) (h' := h) (r := some (.int r9)) dX12_isStep_22 ml_X12_131 (ci := 11) rfl (of_decide_eq_true g3) rfl rfl (Nat.le_of_ble_eq_true rfl) (d' := 0) (by decide) (c_X12_ofRoom (l := x.2.1) v0 v2 (1 : Int32) h g8) ?_
  refine V_isub (pc := 25) dX12_isStep_25 ?_
  obtain ⟨r11, g10, e⟩ := ob_some e
  refine V_callS (pc := 26) (bc := 0) (bs := 0) (mc := 0) (ms := 0) (st := []) (As := [.int (r2 - r5), .int (r7 - r9)]) (h' := h) (r := some (.int r11)) dX12_isStep_26 ml_X12_284 rfl rfl (Nat.le_of_ble_eq_true rfl) (d' := 1) (by decide) (c_X12_farOf (l := x.2.1) (r2 - r5) (r7 - r9) h g10) ?_
  refine V_iconst (pc := 29) (v := (1 : Int32)) dX12_isStep_29 (by decide) ?_
  refine V_icmp_ne (pc := 30) (tgt := 37) dX12_isStep_30 (by decide) (fun c13 => ?_) (fun c13 => ?_)
  · rw [if_neg c13] at e
    refine V_pick [] rfl ?_
    refine V_iconst (pc := 37) (v := (0 : Int32)) dX12_isStep_37 (by decide) ?_
    exact V_pick [] rfl (r_X12_isStep_b38 (0 : Int32) h e hF)
  · rw [if_pos c13] at e
    refine V_pick [] rfl ?_
    refine V_iconst (pc := 33) (v := (1 : Int32)) dX12_isStep_33 (by decide) ?_
    refine V_goto (pc := 34) (tgt := 38) dX12_isStep_34 (by decide) ?_
    exact V_pick [] rfl (r_X12_isStep_b38 (1 : Int32) h e hF)
def F_X12_isStep (v0 : Nat) (v1 : Int32) (v2 : Int32) (h : Hp) : Option Int32 := F_X12_isStep_b0 v0 v1 v2 h
theorem c_X12_isStep {l : Launch} (v0 : Nat) (v1 : Int32) (v2 : Int32) (h : Hp) {r : Int32} (e : F_X12_isStep v0 v1 v2 h = some r) : Ct l yX12_isStep M_X12_isStep (some .boolean) 2 [.ref v0, .int v1, .int v2] h 0 0 (some (.int r)) h :=
  Ct_of rfl rfl (fun q => by cases q) (Nat.le_of_ble_eq_true rfl) (fun x _ hF => V_pick [0, 1, 2] rfl (r_X12_isStep_b0 v0 v1 v2 h e hF))
theorem dX12_hangs_0 : decode cX12_hangs 0 = .ok (.aload_n 0, 1) := by decide +kernel
theorem dX12_hangs_1 : decode cX12_hangs 1 = .ok (.invokevirtual 290, 3) := by decide +kernel
theorem dX12_hangs_4 : decode cX12_hangs 4 = .ok (.aload_n 0, 1) := by decide +kernel
theorem dX12_hangs_5 : decode cX12_hangs 5 = .ok (.iconst 0, 1) := by decide +kernel
theorem dX12_hangs_6 : decode cX12_hangs 6 = .ok (.putfield 392, 3) := by decide +kernel
theorem dX12_hangs_9 : decode cX12_hangs 9 = .ok (.aload_n 0, 1) := by decide +kernel
theorem dX12_hangs_10 : decode cX12_hangs 10 = .ok (.iconst (-1), 1) := by decide +kernel
theorem dX12_hangs_11 : decode cX12_hangs 11 = .ok (.putfield 395, 3) := by decide +kernel
theorem dX12_hangs_14 : decode cX12_hangs 14 = .ok (.aload_n 0, 1) := by decide +kernel
theorem dX12_hangs_15 : decode cX12_hangs 15 = .ok (.invokevirtual 293, 3) := by decide +kernel
theorem dX12_hangs_18 : decode cX12_hangs 18 = .ok (.ifCond .eq 5, 3) := by decide +kernel
theorem dX12_hangs_21 : decode cX12_hangs 21 = .ok (.iconst 1, 1) := by decide +kernel
theorem dX12_hangs_22 : decode cX12_hangs 22 = .ok (.ireturn, 1) := by decide +kernel
theorem dX12_hangs_23 : decode cX12_hangs 23 = .ok (.aload_n 0, 1) := by decide +kernel
theorem dX12_hangs_24 : decode cX12_hangs 24 = .ok (.iconst 1, 1) := by decide +kernel
theorem dX12_hangs_25 : decode cX12_hangs 25 = .ok (.putfield 392, 3) := by decide +kernel
theorem dX12_hangs_28 : decode cX12_hangs 28 = .ok (.aload_n 0, 1) := by decide +kernel
theorem dX12_hangs_29 : decode cX12_hangs 29 = .ok (.getfield 392, 3) := by decide +kernel
theorem dX12_hangs_32 : decode cX12_hangs 32 = .ok (.sipush 300, 3) := by decide +kernel
theorem dX12_hangs_35 : decode cX12_hangs 35 = .ok (.if_icmp .gt 103, 3) := by decide +kernel
theorem dX12_hangs_38 : decode cX12_hangs 38 = .ok (.aload_n 0, 1) := by decide +kernel
theorem dX12_hangs_39 : decode cX12_hangs 39 = .ok (.iconst 0, 1) := by decide +kernel
theorem dX12_hangs_40 : decode cX12_hangs 40 = .ok (.putfield 395, 3) := by decide +kernel
theorem dX12_hangs_43 : decode cX12_hangs 43 = .ok (.aload_n 0, 1) := by decide +kernel
theorem dX12_hangs_44 : decode cX12_hangs 44 = .ok (.getfield 395, 3) := by decide +kernel
theorem dX12_hangs_47 : decode cX12_hangs 47 = .ok (.aload_n 0, 1) := by decide +kernel
theorem dX12_hangs_48 : decode cX12_hangs 48 = .ok (.invokevirtual 60, 3) := by decide +kernel
theorem dX12_hangs_51 : decode cX12_hangs 51 = .ok (.if_icmp .ge 74, 3) := by decide +kernel
theorem dX12_hangs_54 : decode cX12_hangs 54 = .ok (.aload_n 0, 1) := by decide +kernel
theorem dX12_hangs_55 : decode cX12_hangs 55 = .ok (.iconst 0, 1) := by decide +kernel
theorem dX12_hangs_56 : decode cX12_hangs 56 = .ok (.aload_n 0, 1) := by decide +kernel
theorem dX12_hangs_57 : decode cX12_hangs 57 = .ok (.iconst 0, 1) := by decide +kernel
theorem dX12_hangs_58 : decode cX12_hangs 58 = .ok (.invokevirtual 278, 3) := by decide +kernel
theorem dX12_hangs_61 : decode cX12_hangs 61 = .ok (.aload_n 0, 1) := by decide +kernel
theorem dX12_hangs_62 : decode cX12_hangs 62 = .ok (.getfield 392, 3) := by decide +kernel
theorem dX12_hangs_65 : decode cX12_hangs 65 = .ok (.aload_n 0, 1) := by decide +kernel
theorem dX12_hangs_66 : decode cX12_hangs 66 = .ok (.aload_n 0, 1) := by decide +kernel
theorem dX12_hangs_67 : decode cX12_hangs 67 = .ok (.getfield 395, 3) := by decide +kernel
theorem dX12_hangs_70 : decode cX12_hangs 70 = .ok (.iconst 0, 1) := by decide +kernel
theorem dX12_hangs_71 : decode cX12_hangs 71 = .ok (.invokevirtual 131, 3) := by decide +kernel
theorem dX12_hangs_74 : decode cX12_hangs 74 = .ok (.imul, 1) := by decide +kernel
theorem dX12_hangs_75 : decode cX12_hangs 75 = .ok (.iadd, 1) := by decide +kernel
theorem dX12_hangs_76 : decode cX12_hangs 76 = .ok (.invokevirtual 281, 3) := by decide +kernel
theorem dX12_hangs_79 : decode cX12_hangs 79 = .ok (.ifCond .eq 33, 3) := by decide +kernel
theorem dX12_hangs_82 : decode cX12_hangs 82 = .ok (.aload_n 0, 1) := by decide +kernel
theorem dX12_hangs_83 : decode cX12_hangs 83 = .ok (.iconst 1, 1) := by decide +kernel
theorem dX12_hangs_84 : decode cX12_hangs 84 = .ok (.aload_n 0, 1) := by decide +kernel
theorem dX12_hangs_85 : decode cX12_hangs 85 = .ok (.iconst 1, 1) := by decide +kernel
theorem dX12_hangs_86 : decode cX12_hangs 86 = .ok (.invokevirtual 278, 3) := by decide +kernel
theorem dX12_hangs_89 : decode cX12_hangs 89 = .ok (.aload_n 0, 1) := by decide +kernel
theorem dX12_hangs_90 : decode cX12_hangs 90 = .ok (.getfield 392, 3) := by decide +kernel
theorem dX12_hangs_93 : decode cX12_hangs 93 = .ok (.aload_n 0, 1) := by decide +kernel
theorem dX12_hangs_94 : decode cX12_hangs 94 = .ok (.aload_n 0, 1) := by decide +kernel
theorem dX12_hangs_95 : decode cX12_hangs 95 = .ok (.getfield 395, 3) := by decide +kernel
theorem dX12_hangs_98 : decode cX12_hangs 98 = .ok (.iconst 1, 1) := by decide +kernel
theorem dX12_hangs_99 : decode cX12_hangs 99 = .ok (.invokevirtual 131, 3) := by decide +kernel
theorem dX12_hangs_102 : decode cX12_hangs 102 = .ok (.imul, 1) := by decide +kernel
theorem dX12_hangs_103 : decode cX12_hangs 103 = .ok (.iadd, 1) := by decide +kernel
theorem dX12_hangs_104 : decode cX12_hangs 104 = .ok (.invokevirtual 281, 3) := by decide +kernel
theorem dX12_hangs_107 : decode cX12_hangs 107 = .ok (.ifCond .eq 5, 3) := by decide +kernel
theorem dX12_hangs_110 : decode cX12_hangs 110 = .ok (.iconst 1, 1) := by decide +kernel
theorem dX12_hangs_111 : decode cX12_hangs 111 = .ok (.ireturn, 1) := by decide +kernel
theorem dX12_hangs_112 : decode cX12_hangs 112 = .ok (.aload_n 0, 1) := by decide +kernel
theorem dX12_hangs_113 : decode cX12_hangs 113 = .ok (.dup, 1) := by decide +kernel
theorem dX12_hangs_114 : decode cX12_hangs 114 = .ok (.getfield 395, 3) := by decide +kernel
theorem dX12_hangs_117 : decode cX12_hangs 117 = .ok (.iconst 1, 1) := by decide +kernel
theorem dX12_hangs_118 : decode cX12_hangs 118 = .ok (.iadd, 1) := by decide +kernel
theorem dX12_hangs_119 : decode cX12_hangs 119 = .ok (.putfield 395, 3) := by decide +kernel
theorem dX12_hangs_122 : decode cX12_hangs 122 = .ok (.goto (-79), 3) := by decide +kernel
theorem dX12_hangs_125 : decode cX12_hangs 125 = .ok (.aload_n 0, 1) := by decide +kernel
theorem dX12_hangs_126 : decode cX12_hangs 126 = .ok (.dup, 1) := by decide +kernel
theorem dX12_hangs_127 : decode cX12_hangs 127 = .ok (.getfield 392, 3) := by decide +kernel
theorem dX12_hangs_130 : decode cX12_hangs 130 = .ok (.iconst 1, 1) := by decide +kernel
theorem dX12_hangs_131 : decode cX12_hangs 131 = .ok (.iadd, 1) := by decide +kernel
theorem dX12_hangs_132 : decode cX12_hangs 132 = .ok (.putfield 392, 3) := by decide +kernel
theorem dX12_hangs_135 : decode cX12_hangs 135 = .ok (.goto (-107), 3) := by decide +kernel
theorem dX12_hangs_138 : decode cX12_hangs 138 = .ok (.iconst 0, 1) := by decide +kernel
theorem dX12_hangs_139 : decode cX12_hangs 139 = .ok (.ireturn, 1) := by decide +kernel
set_option maxRecDepth 100000 in
def F_X12_hangs_b112 (v0 : Nat) (h : Hp) : Option (Hp ⊕ (Hp ⊕ Hp)) :=
  gd (decide (kd h v0 = 11)) <| some (.inl (setI h v0 28 ((zI h v0 28) + (1 : Int32))))
set_option maxHeartbeats 4000000 in
set_option maxRecDepth 100000 in
theorem r_X12_hangs_b112 (v0 : Nat) (h : Hp) {x : Cx} {o : (Hp ⊕ (Hp ⊕ Hp))} (e : F_X12_hangs_b112 v0 h = some o) (kI : ∀ z, o = .inl z → V M_X12_hangs x 6 43 [(0, .ref v0)] [] z 0 0) (kE125 : ∀ z : Hp, o = .inr (.inl z) → V M_X12_hangs x 6 125 [(0, .ref v0)] [] z 0 0) (kE110 : ∀ z : Hp, o = .inr (.inr z) → V M_X12_hangs x 6 110 [] [] z 0 0) : V M_X12_hangs x 6 112 [(0, .ref v0)] [] h 0 0 := by
  unfold F_X12_hangs_b112 at e
  refine V_aload_n (pc := 112) (i := 0) dX12_hangs_112 rfl rfl ?_
  refine V_dup (pc := 113) dX12_hangs_113 rfl ?_
  obtain ⟨g18, e⟩ := gd_some e
  refine V_getI (pc := 114) (ci := 11) (k := 28) dX12_hangs_114 fl_X12_395 rfl (of_decide_eq_true g18) ?_
  refine V_iconst (pc := 117) (v := (1 : Int32)) dX12_hangs_117 (by decide) ?_
  refine V_iadd (pc := 118) dX12_hangs_118 ?_
  refine V_putI (pc := 119) (ci := 11) (k := 28) dX12_hangs_119 fp_X12_395 rfl (of_decide_eq_true g18) ?_
  refine V_goto (pc := 122) (tgt := 43) dX12_hangs_122 (by decide) ?_
  cases e
  exact V_pick [0] rfl (kI (setI h v0 28 ((zI h v0 28) + (1 : Int32))) rfl)
set_option maxRecDepth 100000 in
def F_X12_hangs_l43 (v0 : Nat) (h : Hp) : Option (Hp ⊕ (Hp ⊕ Hp)) :=
  gd (decide (kd h v0 = 11)) <| ob (F_X12_rooms v0 h) fun r11 => (if r11 ≤ (zI h v0 28) then some (.inr (.inl h)) else ob (F_X12_net v0 (0 : Int32) h) fun r13 => ob (F_X12_ofRoom v0 (zI h v0 28) (0 : Int32) h) fun r15 => ob (F_X12_isLevelBy v0 (0 : Int32) (r13 + ((zI h v0 27) * r15)) h) fun r17 => (if r17 = 0 then F_X12_hangs_b112 v0 h else ob (F_X12_net v0 (1 : Int32) h) fun r20 => ob (F_X12_ofRoom v0 (zI h v0 28) (1 : Int32) h) fun r22 => ob (F_X12_isLevelBy v0 (1 : Int32) (r20 + ((zI h v0 27) * r22)) h) fun r24 => (if r24 = 0 then F_X12_hangs_b112 v0 h else some (.inr (.inr h)))))
set_option maxHeartbeats 4000000 in
set_option maxRecDepth 100000 in
theorem r_X12_hangs_l43 (v0 : Nat) (h : Hp) {x : Cx} {o : (Hp ⊕ (Hp ⊕ Hp))} (e : F_X12_hangs_l43 v0 h = some o) (kI : ∀ z, o = .inl z → V M_X12_hangs x 6 43 [(0, .ref v0)] [] z 0 0) (kE125 : ∀ z : Hp, o = .inr (.inl z) → V M_X12_hangs x 6 125 [(0, .ref v0)] [] z 0 0) (kE110 : ∀ z : Hp, o = .inr (.inr z) → V M_X12_hangs x 6 110 [] [] z 0 0) : V M_X12_hangs x 6 43 [(0, .ref v0)] [] h 0 0 := by
  unfold F_X12_hangs_l43 at e
  refine V_aload_n (pc := 43) (i := 0) dX12_hangs_43 rfl rfl ?_
  obtain ⟨g9, e⟩ := gd_some e
  refine V_getI (pc := 44) (ci := 11) (k := 28) dX12_hangs_44 fl_X12_395 rfl (of_decide_eq_true g9) ?_
  refine V_aload_n (pc := 47) (i := 0) dX12_hangs_47 rfl rfl ?_
  obtain ⟨r11, g10, e⟩ := ob_some e
  refine V_callV (pc := 48) (bc := 0) (bs := 0) (mc := 0) (ms := 0) (st := [.int (zI h v0 28)]) (As := []) (a := v0) (h' := h) (r := some (.int r11)) dX12_hangs_48 ml_X12_60 (ci := 11) rfl (of_decide_eq_true g9) rfl rfl (Nat.le_of_ble_eq_true rfl) (d' := 0) (by decide) (c_X12_rooms (l := x.2.1) v0 h g10) ?_
  refine V_icmp_ge (pc := 51) (tgt := 125) dX12_hangs_51 (by decide) (fun c27 => ?_) (fun c27 => ?_)
  · rw [if_pos c27] at e
    cases e
    exact V_pick [0] rfl (kE125 h rfl)
  · rw [if_neg c27] at e
    refine V_pick [0] rfl ?_
    refine V_aload_n (pc := 54) (i := 0) dX12_hangs_54 rfl rfl ?_
    refine V_iconst (pc := 55) (v := (0 : Int32)) dX12_hangs_55 (by decide) ?_
    refine V_aload_n (pc := 56) (i := 0) dX12_hangs_56 rfl rfl ?_
    refine V_iconst (pc := 57) (v := (0 : Int32)) dX12_hangs_57 (by decide) ?_
    obtain ⟨r13, g12, e⟩ := ob_some e
    refine V_callV (pc := 58) (bc := 0) (bs := 0) (mc := 0) (ms := 0) (st := [.int (0 : Int32), .ref v0]) (As := [.int (0 : Int32)]) (a := v0) (h' := h) (r := some (.int r13)) dX12_hangs_58 ml_X12_278 (ci := 11) rfl (of_decide_eq_true g9) rfl rfl (Nat.le_of_ble_eq_true rfl) (d' := 4) (by decide) (c_X12_net (l := x.2.1) v0 (0 : Int32) h g12) ?_
    refine V_aload_n (pc := 61) (i := 0) dX12_hangs_61 rfl rfl ?_
    refine V_getI (pc := 62) (ci := 11) (k := 27) dX12_hangs_62 fl_X12_392 rfl (of_decide_eq_true g9) ?_
    refine V_aload_n (pc := 65) (i := 0) dX12_hangs_65 rfl rfl ?_
    refine V_aload_n (pc := 66) (i := 0) dX12_hangs_66 rfl rfl ?_
    refine V_getI (pc := 67) (ci := 11) (k := 28) dX12_hangs_67 fl_X12_395 rfl (of_decide_eq_true g9) ?_
    refine V_iconst (pc := 70) (v := (0 : Int32)) dX12_hangs_70 (by decide) ?_
    obtain ⟨r15, g14, e⟩ := ob_some e
    refine V_callV (pc := 71) (bc := 0) (bs := 0) (mc := 0) (ms := 0) (st := [.int (zI h v0 27), .int r13, .int (0 : Int32), .ref v0]) (As := [.int (zI h v0 28), .int (0 : Int32)]) (a := v0) (h' := h) (r := some (.int r15)) dX12_hangs_71 ml_X12_131 (ci := 11) rfl (of_decide_eq_true g9) rfl rfl (Nat.le_of_ble_eq_true rfl) (d' := 0) (by decide) (c_X12_ofRoom (l := x.2.1) v0 (zI h v0 28) (0 : Int32) h g14) ?_
    refine V_imul (pc := 74) dX12_hangs_74 ?_
    refine V_iadd (pc := 75) dX12_hangs_75 ?_
    obtain ⟨r17, g16, e⟩ := ob_some e
    refine V_callV (pc := 76) (bc := 0) (bs := 0) (mc := 0) (ms := 0) (st := []) (As := [.int (0 : Int32), .int (r13 + ((zI h v0 27) * r15))]) (a := v0) (h' := h) (r := some (.int r17)) dX12_hangs_76 ml_X12_281 (ci := 11) rfl (of_decide_eq_true g9) rfl rfl (Nat.le_of_ble_eq_true rfl) (d' := 2) (by decide) (c_X12_isLevelBy (l := x.2.1) v0 (0 : Int32) (r13 + ((zI h v0 27) * r15)) h g16) ?_
    refine V_if_eq (pc := 79) (tgt := 112) dX12_hangs_79 (by decide) (fun c26 => ?_) (fun c26 => ?_)
    · rw [if_pos c26] at e
      exact V_pick [0] rfl (r_X12_hangs_b112 v0 h e kI kE125 kE110)
    · rw [if_neg c26] at e
      refine V_pick [0] rfl ?_
      refine V_aload_n (pc := 82) (i := 0) dX12_hangs_82 rfl rfl ?_
      refine V_iconst (pc := 83) (v := (1 : Int32)) dX12_hangs_83 (by decide) ?_
      refine V_aload_n (pc := 84) (i := 0) dX12_hangs_84 rfl rfl ?_
      refine V_iconst (pc := 85) (v := (1 : Int32)) dX12_hangs_85 (by decide) ?_
      obtain ⟨r20, g19, e⟩ := ob_some e
      refine V_callV (pc := 86) (bc := 0) (bs := 0) (mc := 0) (ms := 0) (st := [.int (1 : Int32), .ref v0]) (As := [.int (1 : Int32)]) (a := v0) (h' := h) (r := some (.int r20)) dX12_hangs_86 ml_X12_278 (ci := 11) rfl (of_decide_eq_true g9) rfl rfl (Nat.le_of_ble_eq_true rfl) (d' := 4) (by decide) (c_X12_net (l := x.2.1) v0 (1 : Int32) h g19) ?_
      refine V_aload_n (pc := 89) (i := 0) dX12_hangs_89 rfl rfl ?_
      refine V_getI (pc := 90) (ci := 11) (k := 27) dX12_hangs_90 fl_X12_392 rfl (of_decide_eq_true g9) ?_
      refine V_aload_n (pc := 93) (i := 0) dX12_hangs_93 rfl rfl ?_
      refine V_aload_n (pc := 94) (i := 0) dX12_hangs_94 rfl rfl ?_
      refine V_getI (pc := 95) (ci := 11) (k := 28) dX12_hangs_95 fl_X12_395 rfl (of_decide_eq_true g9) ?_
      refine V_iconst (pc := 98) (v := (1 : Int32)) dX12_hangs_98 (by decide) ?_
      obtain ⟨r22, g21, e⟩ := ob_some e
      refine V_callV (pc := 99) (bc := 0) (bs := 0) (mc := 0) (ms := 0) (st := [.int (zI h v0 27), .int r20, .int (1 : Int32), .ref v0]) (As := [.int (zI h v0 28), .int (1 : Int32)]) (a := v0) (h' := h) (r := some (.int r22)) dX12_hangs_99 ml_X12_131 (ci := 11) rfl (of_decide_eq_true g9) rfl rfl (Nat.le_of_ble_eq_true rfl) (d' := 0) (by decide) (c_X12_ofRoom (l := x.2.1) v0 (zI h v0 28) (1 : Int32) h g21) ?_
      refine V_imul (pc := 102) dX12_hangs_102 ?_
      refine V_iadd (pc := 103) dX12_hangs_103 ?_
      obtain ⟨r24, g23, e⟩ := ob_some e
      refine V_callV (pc := 104) (bc := 0) (bs := 0) (mc := 0) (ms := 0) (st := []) (As := [.int (1 : Int32), .int (r20 + ((zI h v0 27) * r22))]) (a := v0) (h' := h) (r := some (.int r24)) dX12_hangs_104 ml_X12_281 (ci := 11) rfl (of_decide_eq_true g9) rfl rfl (Nat.le_of_ble_eq_true rfl) (d' := 2) (by decide) (c_X12_isLevelBy (l := x.2.1) v0 (1 : Int32) (r20 + ((zI h v0 27) * r22)) h g23) ?_
      refine V_if_eq (pc := 107) (tgt := 112) dX12_hangs_107 (by decide) (fun c25 => ?_) (fun c25 => ?_)
      · rw [if_pos c25] at e
        exact V_pick [0] rfl (r_X12_hangs_b112 v0 h e kI kE125 kE110)
      · rw [if_neg c25] at e
        cases e
        exact V_pick [] rfl (kE110 h rfl)
set_option maxRecDepth 100000 in
def F_X12_hangs_l28 (v0 : Nat) (h : Hp) : Option (Hp ⊕ (Hp ⊕ Hp)) :=
  gd (decide (kd h v0 = 11)) <| (if (300 : Int32) < (zI h v0 27) then some (.inr (.inl h)) else ob (iter (fun z : Hp => F_X12_hangs_l43 v0 z) FU (setI h v0 28 (0 : Int32))) (fun z => sm z (fun h28 => gd (decide (kd h28 v0 = 11)) <| some (.inl (setI h28 v0 27 ((zI h28 v0 27) + (1 : Int32))))) (fun h30 => some (.inr (.inr h30)))))
set_option maxHeartbeats 4000000 in
set_option maxRecDepth 100000 in
theorem r_X12_hangs_l28 (v0 : Nat) (h : Hp) {x : Cx} {o : (Hp ⊕ (Hp ⊕ Hp))} (e : F_X12_hangs_l28 v0 h = some o) (kI : ∀ z, o = .inl z → V M_X12_hangs x 6 28 [(0, .ref v0)] [] z 0 0) (kE138 : ∀ z : Hp, o = .inr (.inl z) → V M_X12_hangs x 6 138 [] [] z 0 0) (kE110 : ∀ z : Hp, o = .inr (.inr z) → V M_X12_hangs x 6 110 [] [] z 0 0) : V M_X12_hangs x 6 28 [(0, .ref v0)] [] h 0 0 := by
  unfold F_X12_hangs_l28 at e
  refine V_aload_n (pc := 28) (i := 0) dX12_hangs_28 rfl rfl ?_
  obtain ⟨g8, e⟩ := gd_some e
  refine V_getI (pc := 29) (ci := 11) (k := 27) dX12_hangs_29 fl_X12_392 rfl (of_decide_eq_true g8) ?_
  refine V_sipush (pc := 32) (v := (300 : Int32)) dX12_hangs_32 (by decide) ?_
  refine V_icmp_gt (pc := 35) (tgt := 138) dX12_hangs_35 (by decide) (fun c35 => ?_) (fun c35 => ?_)
  · rw [if_pos c35] at e
    cases e
    exact V_pick [] rfl (kE138 h rfl)
  · rw [if_neg c35] at e
    refine V_pick [0] rfl ?_
    refine V_aload_n (pc := 38) (i := 0) dX12_hangs_38 rfl rfl ?_
    refine V_iconst (pc := 39) (v := (0 : Int32)) dX12_hangs_39 (by decide) ?_
    refine V_putI (pc := 40) (ci := 11) (k := 28) dX12_hangs_40 fp_X12_395 rfl (of_decide_eq_true g8) ?_
    refine V_pick [0] rfl ?_
    obtain ⟨y31, g32, e⟩ := ob_some e
    refine iter_V (P := fun z : Hp => V M_X12_hangs x 6 43 [(0, .ref v0)] [] z 0 0) (E := fun z => Sum.elim (fun z : Hp => V M_X12_hangs x 6 125 [(0, .ref v0)] [] z 0 0) (fun z : Hp => V M_X12_hangs x 6 110 [] [] z 0 0) z) (fun z o e9 k1 k2 => r_X12_hangs_l43 v0 z e9 (fun z hz9 => k1 z hz9) (fun z hz9 => k2 _ hz9) (fun z hz9 => k2 _ hz9)) _ _ _ g32 ?_
    clear g32
    rcases y31 with y33 | y34
    · obtain ⟨h28, rfl⟩ : ∃ q, q = y33 := ⟨_, rfl⟩
      replace e : (gd (decide (kd h28 v0 = 11)) <| some (.inl (setI h28 v0 27 ((zI h28 v0 27) + (1 : Int32))))) = some o := e
      show V M_X12_hangs x 6 125 [(0, .ref v0)] [] h28 0 0
      refine V_aload_n (pc := 125) (i := 0) dX12_hangs_125 rfl rfl ?_
      refine V_dup (pc := 126) dX12_hangs_126 rfl ?_
      obtain ⟨g29, e⟩ := gd_some e
      refine V_getI (pc := 127) (ci := 11) (k := 27) dX12_hangs_127 fl_X12_392 rfl (of_decide_eq_true g29) ?_
      refine V_iconst (pc := 130) (v := (1 : Int32)) dX12_hangs_130 (by decide) ?_
      refine V_iadd (pc := 131) dX12_hangs_131 ?_
      refine V_putI (pc := 132) (ci := 11) (k := 27) dX12_hangs_132 fp_X12_392 rfl (of_decide_eq_true g29) ?_
      refine V_goto (pc := 135) (tgt := 28) dX12_hangs_135 (by decide) ?_
      cases e
      exact V_pick [0] rfl (kI (setI h28 v0 27 ((zI h28 v0 27) + (1 : Int32))) rfl)
    · obtain ⟨h30, rfl⟩ : ∃ q, q = y34 := ⟨_, rfl⟩
      replace e : (some (.inr (.inr h30))) = some o := e
      show V M_X12_hangs x 6 110 [] [] h30 0 0
      cases e
      exact V_pick [] rfl (kE110 h30 rfl)
set_option maxRecDepth 100000 in
def F_X12_hangs_b0 (v0 : Nat) (h : Hp) : Option (Int32 × Hp) :=
  ob2 (F_X12_sits v0 h) fun _ h3 => gd (decide (kd h v0 = 11)) <| gd (decide (kd h3 v0 = 11)) <| ob (F_X12_isLevel v0 (setI (setI h3 v0 27 (0 : Int32)) v0 28 (-1 : Int32))) fun r7 => (if r7 = 0 then ob (iter (fun z : Hp => F_X12_hangs_l28 v0 z) FU (setI (setI (setI h3 v0 27 (0 : Int32)) v0 28 (-1 : Int32)) v0 27 (1 : Int32))) (fun z => sm z (fun h36 => some ((0 : Int32), h36)) (fun h37 => some ((1 : Int32), h37))) else some ((1 : Int32), setI (setI h3 v0 27 (0 : Int32)) v0 28 (-1 : Int32)))
set_option maxHeartbeats 4000000 in
set_option maxRecDepth 100000 in
theorem r_X12_hangs_b0 (v0 : Nat) (h : Hp) {x : Cx} {r : Int32} {hz : Hp} (e : F_X12_hangs_b0 v0 h = some (r, hz)) (hF : Fin9 M_X12_hangs x (some .boolean) (some (.int r)) hz) : V M_X12_hangs x 6 0 [(0, .ref v0)] [] h 0 0 := by
  unfold F_X12_hangs_b0 at e
  refine V_aload_n (pc := 0) (i := 0) dX12_hangs_0 rfl rfl ?_
  obtain ⟨r2, h3, g1, e⟩ := ob2_some e
  obtain ⟨g4, e⟩ := gd_some e
  refine V_callV (pc := 1) (bc := 0) (bs := 0) (mc := 0) (ms := 0) (st := []) (As := []) (a := v0) (h' := h3) (r := none) dX12_hangs_1 ml_X12_290 (ci := 11) rfl (of_decide_eq_true g4) rfl rfl (Nat.le_of_ble_eq_true rfl) (d' := 1) (by decide) (c_X12_sits (l := x.2.1) v0 h g1) ?_
  refine V_aload_n (pc := 4) (i := 0) dX12_hangs_4 rfl rfl ?_
  refine V_iconst (pc := 5) (v := (0 : Int32)) dX12_hangs_5 (by decide) ?_
  obtain ⟨g5, e⟩ := gd_some e
  refine V_putI (pc := 6) (ci := 11) (k := 27) dX12_hangs_6 fp_X12_392 rfl (of_decide_eq_true g5) ?_
  refine V_aload_n (pc := 9) (i := 0) dX12_hangs_9 rfl rfl ?_
  refine V_iconst (pc := 10) (v := (-1 : Int32)) dX12_hangs_10 (by decide) ?_
  refine V_putI (pc := 11) (ci := 11) (k := 28) dX12_hangs_11 fp_X12_395 rfl (kd_sI (of_decide_eq_true g5)) ?_
  refine V_aload_n (pc := 14) (i := 0) dX12_hangs_14 rfl rfl ?_
  obtain ⟨r7, g6, e⟩ := ob_some e
  refine V_callV (pc := 15) (bc := 0) (bs := 0) (mc := 0) (ms := 0) (st := []) (As := []) (a := v0) (h' := (setI (setI h3 v0 27 (0 : Int32)) v0 28 (-1 : Int32))) (r := some (.int r7)) dX12_hangs_15 ml_X12_293 (ci := 11) rfl (kd_sI (kd_sI (of_decide_eq_true g5))) rfl rfl (Nat.le_of_ble_eq_true rfl) (d' := 5) (by decide) (c_X12_isLevel (l := x.2.1) v0 (setI (setI h3 v0 27 (0 : Int32)) v0 28 (-1 : Int32)) g6) ?_
  refine V_if_eq (pc := 18) (tgt := 23) dX12_hangs_18 (by decide) (fun c42 => ?_) (fun c42 => ?_)
  · rw [if_pos c42] at e
    refine V_pick [0] rfl ?_
    refine V_aload_n (pc := 23) (i := 0) dX12_hangs_23 rfl rfl ?_
    refine V_iconst (pc := 24) (v := (1 : Int32)) dX12_hangs_24 (by decide) ?_
    refine V_putI (pc := 25) (ci := 11) (k := 27) dX12_hangs_25 fp_X12_392 rfl (kd_sI (kd_sI (of_decide_eq_true g5))) ?_
    refine V_pick [0] rfl ?_
    obtain ⟨y38, g39, e⟩ := ob_some e
    refine iter_V (P := fun z : Hp => V M_X12_hangs x 6 28 [(0, .ref v0)] [] z 0 0) (E := fun z => Sum.elim (fun z : Hp => V M_X12_hangs x 6 138 [] [] z 0 0) (fun z : Hp => V M_X12_hangs x 6 110 [] [] z 0 0) z) (fun z o e9 k1 k2 => r_X12_hangs_l28 v0 z e9 (fun z hz9 => k1 z hz9) (fun z hz9 => k2 _ hz9) (fun z hz9 => k2 _ hz9)) _ _ _ g39 ?_
    clear g39
    rcases y38 with y40 | y41
    · obtain ⟨h36, rfl⟩ : ∃ q, q = y40 := ⟨_, rfl⟩
      replace e : (some ((0 : Int32), h36)) = some (r, hz) := e
      show V M_X12_hangs x 6 138 [] [] h36 0 0
      refine V_iconst (pc := 138) (v := (0 : Int32)) dX12_hangs_138 (by decide) ?_
      cases e
      exact V_zret (pc := 139) dX12_hangs_139 rfl hF
    · obtain ⟨h37, rfl⟩ : ∃ q, q = y41 := ⟨_, rfl⟩
      replace e : (some ((1 : Int32), h37)) = some (r, hz) := e
      show V M_X12_hangs x 6 110 [] [] h37 0 0
      refine V_iconst (pc := 110) (v := (1 : Int32)) dX12_hangs_110 (by decide) ?_
      cases e
      exact V_zret (pc := 111) dX12_hangs_111 rfl hF
  · rw [if_neg c42] at e
    refine V_pick [] rfl ?_
    refine V_iconst (pc := 21) (v := (1 : Int32)) dX12_hangs_21 (by decide) ?_
    cases e
    exact V_zret (pc := 22) dX12_hangs_22 rfl hF
def F_X12_hangs (v0 : Nat) (h : Hp) : Option (Int32 × Hp) := F_X12_hangs_b0 v0 h
theorem c_X12_hangs {l : Launch} (v0 : Nat) (h : Hp) {r : Int32} {hz : Hp} (e : F_X12_hangs v0 h = some (r, hz)) : Ct l yX12_hangs M_X12_hangs (some .boolean) 6 [.ref v0] h 0 0 (some (.int r)) hz :=
  Ct_of rfl rfl (fun q => by cases q) (Nat.le_of_ble_eq_true rfl) (fun x _ hF => V_pick [0] rfl (r_X12_hangs_b0 v0 h e hF))
theorem dX12_bucket_0 : decode cX12_bucket 0 = .ok (.aload_n 0, 1) := by decide +kernel
theorem dX12_bucket_1 : decode cX12_bucket 1 = .ok (.iconst 0, 1) := by decide +kernel
theorem dX12_bucket_2 : decode cX12_bucket 2 = .ok (.putfield 3, 3) := by decide +kernel
theorem dX12_bucket_5 : decode cX12_bucket 5 = .ok (.aload_n 0, 1) := by decide +kernel
theorem dX12_bucket_6 : decode cX12_bucket 6 = .ok (.invokevirtual 398, 3) := by decide +kernel
theorem dX12_bucket_9 : decode cX12_bucket 9 = .ok (.ifCond .ne 7, 3) := by decide +kernel
theorem dX12_bucket_12 : decode cX12_bucket 12 = .ok (.iconst (-1), 1) := by decide +kernel
theorem dX12_bucket_13 : decode cX12_bucket 13 = .ok (.goto 18, 3) := by decide +kernel
theorem dX12_bucket_16 : decode cX12_bucket 16 = .ok (.iload_n 1, 1) := by decide +kernel
theorem dX12_bucket_17 : decode cX12_bucket 17 = .ok (.ifCond .eq 10, 3) := by decide +kernel
theorem dX12_bucket_20 : decode cX12_bucket 20 = .ok (.aload_n 0, 1) := by decide +kernel
theorem dX12_bucket_21 : decode cX12_bucket 21 = .ok (.getfield 395, 3) := by decide +kernel
theorem dX12_bucket_24 : decode cX12_bucket 24 = .ok (.goto 7, 3) := by decide +kernel
theorem dX12_bucket_27 : decode cX12_bucket 27 = .ok (.aload_n 0, 1) := by decide +kernel
theorem dX12_bucket_28 : decode cX12_bucket 28 = .ok (.getfield 392, 3) := by decide +kernel
theorem dX12_bucket_31 : decode cX12_bucket 31 = .ok (.ireturn, 1) := by decide +kernel
set_option maxRecDepth 100000 in
def F_X12_bucket_b31 (t0 : Int32) (h : Hp) : Option (Int32 × Hp) :=
  some (t0, h)
set_option maxHeartbeats 4000000 in
set_option maxRecDepth 100000 in
theorem r_X12_bucket_b31 (t0 : Int32) (h : Hp) {x : Cx} {r : Int32} {hz : Hp} (e : F_X12_bucket_b31 t0 h = some (r, hz)) (hF : Fin9 M_X12_bucket x (some .int) (some (.int r)) hz) : V M_X12_bucket x 7 31 [] [.int t0] h 0 0 := by
  unfold F_X12_bucket_b31 at e
  cases e
  exact V_iret (pc := 31) dX12_bucket_31 hF
set_option maxRecDepth 100000 in
def F_X12_bucket_b0 (v0 : Nat) (v1 : Int32) (h : Hp) : Option (Int32 × Hp) :=
  gd (decide (kd h v0 = 11)) <| ob2 (F_X12_hangs v0 (setI h v0 0 (0 : Int32))) fun r3 h4 => (if r3 = 0 then F_X12_bucket_b31 (-1 : Int32) h4 else (if v1 = 0 then gd (decide (kd h4 v0 = 11)) <| F_X12_bucket_b31 (zI h4 v0 27) h4 else gd (decide (kd h4 v0 = 11)) <| F_X12_bucket_b31 (zI h4 v0 28) h4))
set_option maxHeartbeats 4000000 in
set_option maxRecDepth 100000 in
theorem r_X12_bucket_b0 (v0 : Nat) (v1 : Int32) (h : Hp) {x : Cx} {r : Int32} {hz : Hp} (e : F_X12_bucket_b0 v0 v1 h = some (r, hz)) (hF : Fin9 M_X12_bucket x (some .int) (some (.int r)) hz) : V M_X12_bucket x 7 0 [(0, .ref v0), (1, .int v1)] [] h 0 0 := by
  unfold F_X12_bucket_b0 at e
  refine V_aload_n (pc := 0) (i := 0) dX12_bucket_0 rfl rfl ?_
  refine V_iconst (pc := 1) (v := (0 : Int32)) dX12_bucket_1 (by decide) ?_
  obtain ⟨g1, e⟩ := gd_some e
  refine V_putI (pc := 2) (ci := 11) (k := 0) dX12_bucket_2 fp_X12_3 rfl (of_decide_eq_true g1) ?_
  refine V_aload_n (pc := 5) (i := 0) dX12_bucket_5 rfl rfl ?_
  obtain ⟨r3, h4, g2, e⟩ := ob2_some e
  refine V_callV (pc := 6) (bc := 0) (bs := 0) (mc := 0) (ms := 0) (st := []) (As := []) (a := v0) (h' := h4) (r := some (.int r3)) dX12_bucket_6 ml_X12_398 (ci := 11) rfl (kd_sI (of_decide_eq_true g1)) rfl rfl (Nat.le_of_ble_eq_true rfl) (d' := 6) (by decide) (c_X12_hangs (l := x.2.1) v0 (setI h v0 0 (0 : Int32)) g2) ?_
  refine V_if_ne (pc := 9) (tgt := 16) dX12_bucket_9 (by decide) (fun c8 => ?_) (fun c8 => ?_)
  · rw [if_neg c8] at e
    refine V_pick [0, 1] rfl ?_
    refine V_iload_n (pc := 16) (i := 1) dX12_bucket_16 rfl rfl ?_
    refine V_if_eq (pc := 17) (tgt := 27) dX12_bucket_17 (by decide) (fun c7 => ?_) (fun c7 => ?_)
    · rw [if_pos c7] at e
      refine V_pick [0] rfl ?_
      refine V_aload_n (pc := 27) (i := 0) dX12_bucket_27 rfl rfl ?_
      obtain ⟨g5, e⟩ := gd_some e
      refine V_getI (pc := 28) (ci := 11) (k := 27) dX12_bucket_28 fl_X12_392 rfl (of_decide_eq_true g5) ?_
      exact V_pick [] rfl (r_X12_bucket_b31 (zI h4 v0 27) h4 e hF)
    · rw [if_neg c7] at e
      refine V_pick [0] rfl ?_
      refine V_aload_n (pc := 20) (i := 0) dX12_bucket_20 rfl rfl ?_
      obtain ⟨g6, e⟩ := gd_some e
      refine V_getI (pc := 21) (ci := 11) (k := 28) dX12_bucket_21 fl_X12_395 rfl (of_decide_eq_true g6) ?_
      refine V_goto (pc := 24) (tgt := 31) dX12_bucket_24 (by decide) ?_
      exact V_pick [] rfl (r_X12_bucket_b31 (zI h4 v0 28) h4 e hF)
  · rw [if_pos c8] at e
    refine V_pick [] rfl ?_
    refine V_iconst (pc := 12) (v := (-1 : Int32)) dX12_bucket_12 (by decide) ?_
    refine V_goto (pc := 13) (tgt := 31) dX12_bucket_13 (by decide) ?_
    exact V_pick [] rfl (r_X12_bucket_b31 (-1 : Int32) h4 e hF)
def F_X12_bucket (v0 : Nat) (v1 : Int32) (h : Hp) : Option (Int32 × Hp) := F_X12_bucket_b0 v0 v1 h
theorem c_X12_bucket {l : Launch} (v0 : Nat) (v1 : Int32) (h : Hp) {r : Int32} {hz : Hp} (e : F_X12_bucket v0 v1 h = some (r, hz)) : Ct l yX12_bucket M_X12_bucket (some .int) 7 [.ref v0, .int v1] h 0 0 (some (.int r)) hz :=
  Ct_of rfl rfl (fun q => by cases q) (Nat.le_of_ble_eq_true rfl) (fun x _ hF => V_pick [0, 1] rfl (r_X12_bucket_b0 v0 v1 h e hF))
theorem dX12_wing_0 : decode cX12_wing 0 = .ok (.aload_n 0, 1) := by decide +kernel
theorem dX12_wing_1 : decode cX12_wing 1 = .ok (.iconst 0, 1) := by decide +kernel
theorem dX12_wing_2 : decode cX12_wing 2 = .ok (.putfield 3, 3) := by decide +kernel
theorem dX12_wing_5 : decode cX12_wing 5 = .ok (.aload_n 0, 1) := by decide +kernel
theorem dX12_wing_6 : decode cX12_wing 6 = .ok (.iload_n 1, 1) := by decide +kernel
theorem dX12_wing_7 : decode cX12_wing 7 = .ok (.iconst 1, 1) := by decide +kernel
theorem dX12_wing_8 : decode cX12_wing 8 = .ok (.sipush 999, 3) := by decide +kernel
theorem dX12_wing_11 : decode cX12_wing 11 = .ok (.invokestatic 64, 3) := by decide +kernel
theorem dX12_wing_14 : decode cX12_wing 14 = .ok (.ifCond .ne 7, 3) := by decide +kernel
theorem dX12_wing_17 : decode cX12_wing 17 = .ok (.iconst 1, 1) := by decide +kernel
theorem dX12_wing_18 : decode cX12_wing 18 = .ok (.goto 4, 3) := by decide +kernel
theorem dX12_wing_21 : decode cX12_wing 21 = .ok (.iconst 0, 1) := by decide +kernel
theorem dX12_wing_22 : decode cX12_wing 22 = .ok (.iconst 1, 1) := by decide +kernel
theorem dX12_wing_23 : decode cX12_wing 23 = .ok (.invokevirtual 240, 3) := by decide +kernel
theorem dX12_wing_26 : decode cX12_wing 26 = .ok (.ifCond .eq 5, 3) := by decide +kernel
theorem dX12_wing_29 : decode cX12_wing 29 = .ok (.iconst 0, 1) := by decide +kernel
theorem dX12_wing_30 : decode cX12_wing 30 = .ok (.ireturn, 1) := by decide +kernel
theorem dX12_wing_31 : decode cX12_wing 31 = .ok (.aload_n 0, 1) := by decide +kernel
theorem dX12_wing_32 : decode cX12_wing 32 = .ok (.invokevirtual 290, 3) := by decide +kernel
theorem dX12_wing_35 : decode cX12_wing 35 = .ok (.aload_n 0, 1) := by decide +kernel
theorem dX12_wing_36 : decode cX12_wing 36 = .ok (.iconst 0, 1) := by decide +kernel
theorem dX12_wing_37 : decode cX12_wing 37 = .ok (.invokevirtual 278, 3) := by decide +kernel
theorem dX12_wing_40 : decode cX12_wing 40 = .ok (.istore_n 2, 1) := by decide +kernel
theorem dX12_wing_41 : decode cX12_wing 41 = .ok (.aload_n 0, 1) := by decide +kernel
theorem dX12_wing_42 : decode cX12_wing 42 = .ok (.iconst 1, 1) := by decide +kernel
theorem dX12_wing_43 : decode cX12_wing 43 = .ok (.invokevirtual 278, 3) := by decide +kernel
theorem dX12_wing_46 : decode cX12_wing 46 = .ok (.istore_n 3, 1) := by decide +kernel
theorem dX12_wing_47 : decode cX12_wing 47 = .ok (.iconst 0, 1) := by decide +kernel
theorem dX12_wing_48 : decode cX12_wing 48 = .ok (.istore 4, 2) := by decide +kernel
theorem dX12_wing_50 : decode cX12_wing 50 = .ok (.ldc_w 403, 3) := by decide +kernel
theorem dX12_wing_53 : decode cX12_wing 53 = .ok (.istore 5, 2) := by decide +kernel
theorem dX12_wing_55 : decode cX12_wing 55 = .ok (.bipush (-9), 2) := by decide +kernel
theorem dX12_wing_57 : decode cX12_wing 57 = .ok (.istore 6, 2) := by decide +kernel
theorem dX12_wing_59 : decode cX12_wing 59 = .ok (.iload 6, 2) := by decide +kernel
theorem dX12_wing_61 : decode cX12_wing 61 = .ok (.bipush 9, 2) := by decide +kernel
theorem dX12_wing_63 : decode cX12_wing 63 = .ok (.if_icmp .gt 73, 3) := by decide +kernel
theorem dX12_wing_66 : decode cX12_wing 66 = .ok (.bipush (-9), 2) := by decide +kernel
theorem dX12_wing_68 : decode cX12_wing 68 = .ok (.istore 7, 2) := by decide +kernel
theorem dX12_wing_70 : decode cX12_wing 70 = .ok (.iload 7, 2) := by decide +kernel
theorem dX12_wing_72 : decode cX12_wing 72 = .ok (.bipush 9, 2) := by decide +kernel
theorem dX12_wing_74 : decode cX12_wing 74 = .ok (.if_icmp .gt 56, 3) := by decide +kernel
theorem dX12_wing_77 : decode cX12_wing 77 = .ok (.iload_n 2, 1) := by decide +kernel
theorem dX12_wing_78 : decode cX12_wing 78 = .ok (.iload_n 1, 1) := by decide +kernel
theorem dX12_wing_79 : decode cX12_wing 79 = .ok (.iload 7, 2) := by decide +kernel
theorem dX12_wing_81 : decode cX12_wing 81 = .ok (.imul, 1) := by decide +kernel
theorem dX12_wing_82 : decode cX12_wing 82 = .ok (.iadd, 1) := by decide +kernel
theorem dX12_wing_83 : decode cX12_wing 83 = .ok (.iload_n 3, 1) := by decide +kernel
theorem dX12_wing_84 : decode cX12_wing 84 = .ok (.iload_n 1, 1) := by decide +kernel
theorem dX12_wing_85 : decode cX12_wing 85 = .ok (.iload 6, 2) := by decide +kernel
theorem dX12_wing_87 : decode cX12_wing 87 = .ok (.imul, 1) := by decide +kernel
theorem dX12_wing_88 : decode cX12_wing 88 = .ok (.iadd, 1) := by decide +kernel
theorem dX12_wing_89 : decode cX12_wing 89 = .ok (.invokestatic 284, 3) := by decide +kernel
theorem dX12_wing_92 : decode cX12_wing 92 = .ok (.istore 8, 2) := by decide +kernel
theorem dX12_wing_94 : decode cX12_wing 94 = .ok (.iload 8, 2) := by decide +kernel
theorem dX12_wing_96 : decode cX12_wing 96 = .ok (.iload 5, 2) := by decide +kernel
theorem dX12_wing_98 : decode cX12_wing 98 = .ok (.if_icmp .lt 6, 3) := by decide +kernel
theorem dX12_wing_101 : decode cX12_wing 101 = .ok (.goto 23, 3) := by decide +kernel
theorem dX12_wing_104 : decode cX12_wing 104 = .ok (.iload 8, 2) := by decide +kernel
theorem dX12_wing_106 : decode cX12_wing 106 = .ok (.istore 5, 2) := by decide +kernel
theorem dX12_wing_108 : decode cX12_wing 108 = .ok (.bipush 19, 2) := by decide +kernel
theorem dX12_wing_110 : decode cX12_wing 110 = .ok (.iload 6, 2) := by decide +kernel
theorem dX12_wing_112 : decode cX12_wing 112 = .ok (.bipush 9, 2) := by decide +kernel
theorem dX12_wing_114 : decode cX12_wing 114 = .ok (.iadd, 1) := by decide +kernel
theorem dX12_wing_115 : decode cX12_wing 115 = .ok (.imul, 1) := by decide +kernel
theorem dX12_wing_116 : decode cX12_wing 116 = .ok (.iload 7, 2) := by decide +kernel
theorem dX12_wing_118 : decode cX12_wing 118 = .ok (.iadd, 1) := by decide +kernel
theorem dX12_wing_119 : decode cX12_wing 119 = .ok (.bipush 9, 2) := by decide +kernel
theorem dX12_wing_121 : decode cX12_wing 121 = .ok (.iadd, 1) := by decide +kernel
theorem dX12_wing_122 : decode cX12_wing 122 = .ok (.istore 4, 2) := by decide +kernel
theorem dX12_wing_124 : decode cX12_wing 124 = .ok (.iinc 7 1, 3) := by decide +kernel
theorem dX12_wing_127 : decode cX12_wing 127 = .ok (.goto (-57), 3) := by decide +kernel
theorem dX12_wing_130 : decode cX12_wing 130 = .ok (.iinc 6 1, 3) := by decide +kernel
theorem dX12_wing_133 : decode cX12_wing 133 = .ok (.goto (-74), 3) := by decide +kernel
theorem dX12_wing_136 : decode cX12_wing 136 = .ok (.iload 4, 2) := by decide +kernel
theorem dX12_wing_138 : decode cX12_wing 138 = .ok (.ireturn, 1) := by decide +kernel
set_option maxRecDepth 100000 in
def F_X12_wing_b124 (v1 : Int32) (v2 : Int32) (v3 : Int32) (v4 : Int32) (v5 : Int32) (v6 : Int32) (v7 : Int32) (h : Hp) : Option ((Int32 × Int32 × Int32) ⊕ (Int32 × Int32)) :=
  some (.inl (v4, v5, v7 + (1 : Int32)))
set_option maxHeartbeats 4000000 in
set_option maxRecDepth 100000 in
theorem r_X12_wing_b124 (v1 : Int32) (v2 : Int32) (v3 : Int32) (v4 : Int32) (v5 : Int32) (v6 : Int32) (v7 : Int32) (h : Hp) {x : Cx} {o : ((Int32 × Int32 × Int32) ⊕ (Int32 × Int32))} (e : F_X12_wing_b124 v1 v2 v3 v4 v5 v6 v7 h = some o) (kI : ∀ z, o = .inl z → V M_X12_wing x 5 70 [(1, .int v1), (2, .int v2), (3, .int v3), (4, .int z.1), (5, .int z.2.1), (6, .int v6), (7, .int z.2.2)] [] h 0 0) (kE130 : ∀ z : Int32 × Int32, o = .inr z → V M_X12_wing x 5 130 [(1, .int v1), (2, .int v2), (3, .int v3), (4, .int z.1), (5, .int z.2), (6, .int v6)] [] h 0 0) : V M_X12_wing x 5 124 [(1, .int v1), (2, .int v2), (3, .int v3), (4, .int v4), (5, .int v5), (6, .int v6), (7, .int v7)] [] h 0 0 := by
  unfold F_X12_wing_b124 at e
  refine V_iinc (pc := 124) (i := 7) (u := v7 + (1 : Int32)) (lv' := [(7, .int (v7 + (1 : Int32))), (1, .int v1), (2, .int v2), (3, .int v3), (4, .int v4), (5, .int v5), (6, .int v6)]) dX12_wing_124 rfl rfl (by decide) rfl ?_
  refine V_goto (pc := 127) (tgt := 70) dX12_wing_127 (by decide) ?_
  cases e
  exact V_pick [1, 2, 3, 4, 5, 6, 0] rfl (kI (v4, v5, v7 + (1 : Int32)) rfl)
set_option maxRecDepth 100000 in
def F_X12_wing_l70 (v1 : Int32) (v2 : Int32) (v3 : Int32) (v4 : Int32) (v5 : Int32) (v6 : Int32) (v7 : Int32) (h : Hp) : Option ((Int32 × Int32 × Int32) ⊕ (Int32 × Int32)) :=
  (if (9 : Int32) < v7 then some (.inr (v4, v5)) else ob (F_X12_farOf (v2 + (v1 * v7)) (v3 + (v1 * v6)) h) fun r18 => (if r18 < v5 then F_X12_wing_b124 v1 v2 v3 ((((19 : Int32) * (v6 + (9 : Int32))) + v7) + (9 : Int32)) r18 v6 v7 h else F_X12_wing_b124 v1 v2 v3 v4 v5 v6 v7 h))
set_option maxHeartbeats 4000000 in
set_option maxRecDepth 100000 in
theorem r_X12_wing_l70 (v1 : Int32) (v2 : Int32) (v3 : Int32) (v4 : Int32) (v5 : Int32) (v6 : Int32) (v7 : Int32) (h : Hp) {x : Cx} {o : ((Int32 × Int32 × Int32) ⊕ (Int32 × Int32))} (e : F_X12_wing_l70 v1 v2 v3 v4 v5 v6 v7 h = some o) (kI : ∀ z, o = .inl z → V M_X12_wing x 5 70 [(1, .int v1), (2, .int v2), (3, .int v3), (4, .int z.1), (5, .int z.2.1), (6, .int v6), (7, .int z.2.2)] [] h 0 0) (kE130 : ∀ z : Int32 × Int32, o = .inr z → V M_X12_wing x 5 130 [(1, .int v1), (2, .int v2), (3, .int v3), (4, .int z.1), (5, .int z.2), (6, .int v6)] [] h 0 0) : V M_X12_wing x 5 70 [(1, .int v1), (2, .int v2), (3, .int v3), (4, .int v4), (5, .int v5), (6, .int v6), (7, .int v7)] [] h 0 0 := by
  unfold F_X12_wing_l70 at e
  refine V_iload (pc := 70) (i := 7) dX12_wing_70 rfl ?_
  refine V_bipush (pc := 72) (v := (9 : Int32)) dX12_wing_72 (by decide) ?_
  refine V_icmp_gt (pc := 74) (tgt := 130) dX12_wing_74 (by decide) (fun c20 => ?_) (fun c20 => ?_)
  · rw [if_pos c20] at e
    cases e
    exact V_pick [0, 1, 2, 3, 4, 5] rfl (kE130 (v4, v5) rfl)
  · rw [if_neg c20] at e
    refine V_pick [0, 1, 2, 3, 4, 5, 6] rfl ?_
    refine V_iload_n (pc := 77) (i := 2) dX12_wing_77 rfl rfl ?_
    refine V_iload_n (pc := 78) (i := 1) dX12_wing_78 rfl rfl ?_
    refine V_iload (pc := 79) (i := 7) dX12_wing_79 rfl ?_
    refine V_imul (pc := 81) dX12_wing_81 ?_
    refine V_iadd (pc := 82) dX12_wing_82 ?_
    refine V_iload_n (pc := 83) (i := 3) dX12_wing_83 rfl rfl ?_
    refine V_iload_n (pc := 84) (i := 1) dX12_wing_84 rfl rfl ?_
    refine V_iload (pc := 85) (i := 6) dX12_wing_85 rfl ?_
    refine V_imul (pc := 87) dX12_wing_87 ?_
    refine V_iadd (pc := 88) dX12_wing_88 ?_
    obtain ⟨r18, g17, e⟩ := ob_some e
    refine V_callS (pc := 89) (bc := 0) (bs := 0) (mc := 0) (ms := 0) (st := []) (As := [.int (v2 + (v1 * v7)), .int (v3 + (v1 * v6))]) (h' := h) (r := some (.int r18)) dX12_wing_89 ml_X12_284 rfl rfl (Nat.le_of_ble_eq_true rfl) (d' := 1) (by decide) (c_X12_farOf (l := x.2.1) (v2 + (v1 * v7)) (v3 + (v1 * v6)) h g17) ?_
    refine V_istore (pc := 92) (i := 8) (lv' := [(8, .int r18), (1, .int v1), (2, .int v2), (3, .int v3), (4, .int v4), (5, .int v5), (6, .int v6), (7, .int v7)]) dX12_wing_92 (by decide) rfl ?_
    refine V_iload (pc := 94) (i := 8) dX12_wing_94 rfl ?_
    refine V_iload (pc := 96) (i := 5) dX12_wing_96 rfl ?_
    refine V_icmp_lt (pc := 98) (tgt := 104) dX12_wing_98 (by decide) (fun c19 => ?_) (fun c19 => ?_)
    · rw [if_pos c19] at e
      refine V_pick [1, 2, 3, 6, 7, 0] rfl ?_
      refine V_iload (pc := 104) (i := 8) dX12_wing_104 rfl ?_
      refine V_istore (pc := 106) (i := 5) (lv' := [(5, .int r18), (1, .int v1), (2, .int v2), (3, .int v3), (6, .int v6), (7, .int v7), (8, .int r18)]) dX12_wing_106 (by decide) rfl ?_
      refine V_bipush (pc := 108) (v := (19 : Int32)) dX12_wing_108 (by decide) ?_
      refine V_iload (pc := 110) (i := 6) dX12_wing_110 rfl ?_
      refine V_bipush (pc := 112) (v := (9 : Int32)) dX12_wing_112 (by decide) ?_
      refine V_iadd (pc := 114) dX12_wing_114 ?_
      refine V_imul (pc := 115) dX12_wing_115 ?_
      refine V_iload (pc := 116) (i := 7) dX12_wing_116 rfl ?_
      refine V_iadd (pc := 118) dX12_wing_118 ?_
      refine V_bipush (pc := 119) (v := (9 : Int32)) dX12_wing_119 (by decide) ?_
      refine V_iadd (pc := 121) dX12_wing_121 ?_
      refine V_istore (pc := 122) (i := 4) (lv' := [(4, .int ((((19 : Int32) * (v6 + (9 : Int32))) + v7) + (9 : Int32))), (5, .int r18), (1, .int v1), (2, .int v2), (3, .int v3), (6, .int v6), (7, .int v7), (8, .int r18)]) dX12_wing_122 (by decide) rfl ?_
      exact V_pick [2, 3, 4, 0, 1, 5, 6] rfl (r_X12_wing_b124 v1 v2 v3 ((((19 : Int32) * (v6 + (9 : Int32))) + v7) + (9 : Int32)) r18 v6 v7 h e kI kE130)
    · rw [if_neg c19] at e
      refine V_pick [1, 2, 3, 4, 5, 6, 7] rfl ?_
      refine V_goto (pc := 101) (tgt := 124) dX12_wing_101 (by decide) ?_
      exact V_pick [0, 1, 2, 3, 4, 5, 6] rfl (r_X12_wing_b124 v1 v2 v3 v4 v5 v6 v7 h e kI kE130)
set_option maxRecDepth 100000 in
def F_X12_wing_l59 (v1 : Int32) (v2 : Int32) (v3 : Int32) (v4 : Int32) (v5 : Int32) (v6 : Int32) (h : Hp) : Option ((Int32 × Int32 × Int32) ⊕ Int32) :=
  (if (9 : Int32) < v6 then some (.inr v4) else ob (iter (fun z : Int32 × Int32 × Int32 => F_X12_wing_l70 v1 v2 v3 z.1 z.2.1 v6 z.2.2 h) FU (v4, v5, (-9 : Int32))) (fun z => un2 z fun w21 w22 => some (.inl (w21, w22, v6 + (1 : Int32)))))
set_option maxHeartbeats 4000000 in
set_option maxRecDepth 100000 in
theorem r_X12_wing_l59 (v1 : Int32) (v2 : Int32) (v3 : Int32) (v4 : Int32) (v5 : Int32) (v6 : Int32) (h : Hp) {x : Cx} {o : ((Int32 × Int32 × Int32) ⊕ Int32)} (e : F_X12_wing_l59 v1 v2 v3 v4 v5 v6 h = some o) (kI : ∀ z, o = .inl z → V M_X12_wing x 5 59 [(1, .int v1), (2, .int v2), (3, .int v3), (4, .int z.1), (5, .int z.2.1), (6, .int z.2.2)] [] h 0 0) (kE136 : ∀ z : Int32, o = .inr z → V M_X12_wing x 5 136 [(4, .int z)] [] h 0 0) : V M_X12_wing x 5 59 [(1, .int v1), (2, .int v2), (3, .int v3), (4, .int v4), (5, .int v5), (6, .int v6)] [] h 0 0 := by
  unfold F_X12_wing_l59 at e
  refine V_iload (pc := 59) (i := 6) dX12_wing_59 rfl ?_
  refine V_bipush (pc := 61) (v := (9 : Int32)) dX12_wing_61 (by decide) ?_
  refine V_icmp_gt (pc := 63) (tgt := 136) dX12_wing_63 (by decide) (fun c25 => ?_) (fun c25 => ?_)
  · rw [if_pos c25] at e
    cases e
    exact V_pick [3] rfl (kE136 v4 rfl)
  · rw [if_neg c25] at e
    refine V_pick [0, 1, 2, 3, 4, 5] rfl ?_
    refine V_bipush (pc := 66) (v := (-9 : Int32)) dX12_wing_66 (by decide) ?_
    refine V_istore (pc := 68) (i := 7) (lv' := [(7, .int (-9 : Int32)), (1, .int v1), (2, .int v2), (3, .int v3), (4, .int v4), (5, .int v5), (6, .int v6)]) dX12_wing_68 (by decide) rfl ?_
    refine V_pick [1, 2, 3, 4, 5, 6, 0] rfl ?_
    obtain ⟨y23, g24, e⟩ := ob_some e
    refine iter_V (P := fun z : Int32 × Int32 × Int32 => V M_X12_wing x 5 70 [(1, .int v1), (2, .int v2), (3, .int v3), (4, .int z.1), (5, .int z.2.1), (6, .int v6), (7, .int z.2.2)] [] h 0 0) (E := fun z : Int32 × Int32 => V M_X12_wing x 5 130 [(1, .int v1), (2, .int v2), (3, .int v3), (4, .int z.1), (5, .int z.2), (6, .int v6)] [] h 0 0) (fun z o e9 k1 k2 => r_X12_wing_l70 v1 v2 v3 z.1 z.2.1 v6 z.2.2 h e9 (fun z hz9 => k1 z hz9) (fun z hz9 => k2 _ hz9)) _ _ _ g24 ?_
    clear g24
    obtain ⟨w21, w22⟩ := y23
    replace e : (some (.inl (w21, w22, v6 + (1 : Int32)))) = some o := e
    show V M_X12_wing x 5 130 [(1, .int v1), (2, .int v2), (3, .int v3), (4, .int w21), (5, .int w22), (6, .int v6)] [] h 0 0
    refine V_iinc (pc := 130) (i := 6) (u := v6 + (1 : Int32)) (lv' := [(6, .int (v6 + (1 : Int32))), (1, .int v1), (2, .int v2), (3, .int v3), (4, .int w21), (5, .int w22)]) dX12_wing_130 rfl rfl (by decide) rfl ?_
    refine V_goto (pc := 133) (tgt := 59) dX12_wing_133 (by decide) ?_
    cases e
    exact V_pick [1, 2, 3, 4, 5, 0] rfl (kI (w21, w22, v6 + (1 : Int32)) rfl)
set_option maxRecDepth 100000 in
def F_X12_wing_b22 (v0 : Nat) (v1 : Int32) (t0 : Nat) (t1 : Int32) (h : Hp) : Option (Int32 × Hp) :=
  ob2 (F_X12_throwsIf t0 t1 (1 : Int32) h) fun r5 h6 => gd (decide (kd h t0 = 11)) <| (if r5 = 0 then ob2 (F_X12_sits v0 h6) fun _ h10 => gd (decide (kd h6 v0 = 11)) <| ob (F_X12_net v0 (0 : Int32) h10) fun r13 => gd (decide (kd h10 v0 = 11)) <| ob (F_X12_net v0 (1 : Int32) h10) fun r16 => ob (iter (fun z : Int32 × Int32 × Int32 => F_X12_wing_l59 v1 r13 r16 z.1 z.2.1 z.2.2 h10) FU ((0 : Int32), (2147483647 : Int32), (-9 : Int32))) (fun w26 => some (w26, h10)) else some ((0 : Int32), h6))
set_option maxHeartbeats 4000000 in
set_option maxRecDepth 100000 in
theorem r_X12_wing_b22 (v0 : Nat) (v1 : Int32) (t0 : Nat) (t1 : Int32) (h : Hp) {x : Cx} {r : Int32} {hz : Hp} (e : F_X12_wing_b22 v0 v1 t0 t1 h = some (r, hz)) (hF : Fin9 M_X12_wing x (some .int) (some (.int r)) hz) : V M_X12_wing x 5 22 [(0, .ref v0), (1, .int v1)] [.int t1, .ref t0] h 0 0 := by
  unfold F_X12_wing_b22 at e
  refine V_iconst (pc := 22) (v := (1 : Int32)) dX12_wing_22 (by decide) ?_
  obtain ⟨r5, h6, g4, e⟩ := ob2_some e
  obtain ⟨g7, e⟩ := gd_some e
  refine V_callV (pc := 23) (bc := 0) (bs := 0) (mc := 0) (ms := 0) (st := []) (As := [.int t1, .int (1 : Int32)]) (a := t0) (h' := h6) (r := some (.int r5)) dX12_wing_23 ml_X12_240 (ci := 11) rfl (of_decide_eq_true g7) rfl rfl (Nat.le_of_ble_eq_true rfl) (d' := 0) (by decide) (c_X12_throwsIf (l := x.2.1) t0 t1 (1 : Int32) h g4) ?_
  refine V_if_eq (pc := 26) (tgt := 31) dX12_wing_26 (by decide) (fun c29 => ?_) (fun c29 => ?_)
  · rw [if_pos c29] at e
    refine V_pick [0, 1] rfl ?_
    refine V_aload_n (pc := 31) (i := 0) dX12_wing_31 rfl rfl ?_
    obtain ⟨r9, h10, g8, e⟩ := ob2_some e
    obtain ⟨g11, e⟩ := gd_some e
    refine V_callV (pc := 32) (bc := 0) (bs := 0) (mc := 0) (ms := 0) (st := []) (As := []) (a := v0) (h' := h10) (r := none) dX12_wing_32 ml_X12_290 (ci := 11) rfl (of_decide_eq_true g11) rfl rfl (Nat.le_of_ble_eq_true rfl) (d' := 1) (by decide) (c_X12_sits (l := x.2.1) v0 h6 g8) ?_
    refine V_aload_n (pc := 35) (i := 0) dX12_wing_35 rfl rfl ?_
    refine V_iconst (pc := 36) (v := (0 : Int32)) dX12_wing_36 (by decide) ?_
    obtain ⟨r13, g12, e⟩ := ob_some e
    obtain ⟨g14, e⟩ := gd_some e
    refine V_callV (pc := 37) (bc := 0) (bs := 0) (mc := 0) (ms := 0) (st := []) (As := [.int (0 : Int32)]) (a := v0) (h' := h10) (r := some (.int r13)) dX12_wing_37 ml_X12_278 (ci := 11) rfl (of_decide_eq_true g14) rfl rfl (Nat.le_of_ble_eq_true rfl) (d' := 4) (by decide) (c_X12_net (l := x.2.1) v0 (0 : Int32) h10 g12) ?_
    refine V_istore_n (pc := 40) (i := 2) (lv' := [(2, .int r13), (0, .ref v0), (1, .int v1)]) dX12_wing_40 rfl (by decide) rfl ?_
    refine V_aload_n (pc := 41) (i := 0) dX12_wing_41 rfl rfl ?_
    refine V_iconst (pc := 42) (v := (1 : Int32)) dX12_wing_42 (by decide) ?_
    obtain ⟨r16, g15, e⟩ := ob_some e
    refine V_callV (pc := 43) (bc := 0) (bs := 0) (mc := 0) (ms := 0) (st := []) (As := [.int (1 : Int32)]) (a := v0) (h' := h10) (r := some (.int r16)) dX12_wing_43 ml_X12_278 (ci := 11) rfl (of_decide_eq_true g14) rfl rfl (Nat.le_of_ble_eq_true rfl) (d' := 4) (by decide) (c_X12_net (l := x.2.1) v0 (1 : Int32) h10 g15) ?_
    refine V_istore_n (pc := 46) (i := 3) (lv' := [(3, .int r16), (2, .int r13), (0, .ref v0), (1, .int v1)]) dX12_wing_46 rfl (by decide) rfl ?_
    refine V_iconst (pc := 47) (v := (0 : Int32)) dX12_wing_47 (by decide) ?_
    refine V_istore (pc := 48) (i := 4) (lv' := [(4, .int (0 : Int32)), (3, .int r16), (2, .int r13), (0, .ref v0), (1, .int v1)]) dX12_wing_48 (by decide) rfl ?_
    refine V_ldcw (pc := 50) (v := (2147483647 : Int32)) dX12_wing_50 (wk_X12_403) ?_
    refine V_istore (pc := 53) (i := 5) (lv' := [(5, .int (2147483647 : Int32)), (4, .int (0 : Int32)), (3, .int r16), (2, .int r13), (0, .ref v0), (1, .int v1)]) dX12_wing_53 (by decide) rfl ?_
    refine V_bipush (pc := 55) (v := (-9 : Int32)) dX12_wing_55 (by decide) ?_
    refine V_istore (pc := 57) (i := 6) (lv' := [(6, .int (-9 : Int32)), (5, .int (2147483647 : Int32)), (4, .int (0 : Int32)), (3, .int r16), (2, .int r13), (0, .ref v0), (1, .int v1)]) dX12_wing_57 (by decide) rfl ?_
    refine V_pick [6, 4, 3, 2, 1, 0] rfl ?_
    obtain ⟨y27, g28, e⟩ := ob_some e
    refine iter_V (P := fun z : Int32 × Int32 × Int32 => V M_X12_wing x 5 59 [(1, .int v1), (2, .int r13), (3, .int r16), (4, .int z.1), (5, .int z.2.1), (6, .int z.2.2)] [] h10 0 0) (E := fun z : Int32 => V M_X12_wing x 5 136 [(4, .int z)] [] h10 0 0) (fun z o e9 k1 k2 => r_X12_wing_l59 v1 r13 r16 z.1 z.2.1 z.2.2 h10 e9 (fun z hz9 => k1 z hz9) (fun z hz9 => k2 _ hz9)) _ _ _ g28 ?_
    clear g28
    obtain ⟨w26, rfl⟩ : ∃ q, q = y27 := ⟨_, rfl⟩
    replace e : (some (w26, h10)) = some (r, hz) := e
    show V M_X12_wing x 5 136 [(4, .int w26)] [] h10 0 0
    refine V_iload (pc := 136) (i := 4) dX12_wing_136 rfl ?_
    cases e
    exact V_iret (pc := 138) dX12_wing_138 hF
  · rw [if_neg c29] at e
    refine V_pick [] rfl ?_
    refine V_iconst (pc := 29) (v := (0 : Int32)) dX12_wing_29 (by decide) ?_
    cases e
    exact V_iret (pc := 30) dX12_wing_30 hF
set_option maxRecDepth 100000 in
def F_X12_wing_b0 (v0 : Nat) (v1 : Int32) (h : Hp) : Option (Int32 × Hp) :=
  gd (decide (kd h v0 = 11)) <| ob (F_X12_in v1 (1 : Int32) (999 : Int32) (setI h v0 0 (0 : Int32))) fun r3 => (if r3 = 0 then F_X12_wing_b22 v0 v1 v0 (1 : Int32) (setI h v0 0 (0 : Int32)) else F_X12_wing_b22 v0 v1 v0 (0 : Int32) (setI h v0 0 (0 : Int32)))
set_option maxHeartbeats 4000000 in
set_option maxRecDepth 100000 in
theorem r_X12_wing_b0 (v0 : Nat) (v1 : Int32) (h : Hp) {x : Cx} {r : Int32} {hz : Hp} (e : F_X12_wing_b0 v0 v1 h = some (r, hz)) (hF : Fin9 M_X12_wing x (some .int) (some (.int r)) hz) : V M_X12_wing x 5 0 [(0, .ref v0), (1, .int v1)] [] h 0 0 := by
  unfold F_X12_wing_b0 at e
  refine V_aload_n (pc := 0) (i := 0) dX12_wing_0 rfl rfl ?_
  refine V_iconst (pc := 1) (v := (0 : Int32)) dX12_wing_1 (by decide) ?_
  obtain ⟨g1, e⟩ := gd_some e
  refine V_putI (pc := 2) (ci := 11) (k := 0) dX12_wing_2 fp_X12_3 rfl (of_decide_eq_true g1) ?_
  refine V_aload_n (pc := 5) (i := 0) dX12_wing_5 rfl rfl ?_
  refine V_iload_n (pc := 6) (i := 1) dX12_wing_6 rfl rfl ?_
  refine V_iconst (pc := 7) (v := (1 : Int32)) dX12_wing_7 (by decide) ?_
  refine V_sipush (pc := 8) (v := (999 : Int32)) dX12_wing_8 (by decide) ?_
  obtain ⟨r3, g2, e⟩ := ob_some e
  refine V_callS (pc := 11) (bc := 0) (bs := 0) (mc := 0) (ms := 0) (st := [.ref v0]) (As := [.int v1, .int (1 : Int32), .int (999 : Int32)]) (h' := (setI h v0 0 (0 : Int32))) (r := some (.int r3)) dX12_wing_11 ml_X12_64 rfl rfl (Nat.le_of_ble_eq_true rfl) (d' := 0) (by decide) (c_X12_in (l := x.2.1) v1 (1 : Int32) (999 : Int32) (setI h v0 0 (0 : Int32)) g2) ?_
  refine V_if_ne (pc := 14) (tgt := 21) dX12_wing_14 (by decide) (fun c30 => ?_) (fun c30 => ?_)
  · rw [if_neg c30] at e
    refine V_pick [0, 1] rfl ?_
    refine V_iconst (pc := 21) (v := (0 : Int32)) dX12_wing_21 (by decide) ?_
    exact V_pick [0, 1] rfl (r_X12_wing_b22 v0 v1 v0 (0 : Int32) (setI h v0 0 (0 : Int32)) e hF)
  · rw [if_pos c30] at e
    refine V_pick [0, 1] rfl ?_
    refine V_iconst (pc := 17) (v := (1 : Int32)) dX12_wing_17 (by decide) ?_
    refine V_goto (pc := 18) (tgt := 22) dX12_wing_18 (by decide) ?_
    exact V_pick [0, 1] rfl (r_X12_wing_b22 v0 v1 v0 (1 : Int32) (setI h v0 0 (0 : Int32)) e hF)
def F_X12_wing (v0 : Nat) (v1 : Int32) (h : Hp) : Option (Int32 × Hp) := F_X12_wing_b0 v0 v1 h
theorem c_X12_wing {l : Launch} (v0 : Nat) (v1 : Int32) (h : Hp) {r : Int32} {hz : Hp} (e : F_X12_wing v0 v1 h = some (r, hz)) : Ct l yX12_wing M_X12_wing (some .int) 5 [.ref v0, .int v1] h 0 0 (some (.int r)) hz :=
  Ct_of rfl rfl (fun q => by cases q) (Nat.le_of_ble_eq_true rfl) (fun x _ hF => V_pick [0, 1] rfl (r_X12_wing_b0 v0 v1 h e hF))

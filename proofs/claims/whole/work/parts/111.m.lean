theorem dX9_seatFurther_0 : decode cX9_seatFurther 0 = .ok (.aload_n 0, 1) := by decide +kernel
theorem dX9_seatFurther_1 : decode cX9_seatFurther 1 = .ok (.getfield 9, 3) := by decide +kernel
theorem dX9_seatFurther_4 : decode cX9_seatFurther 4 = .ok (.iload_n 1, 1) := by decide +kernel
theorem dX9_seatFurther_5 : decode cX9_seatFurther 5 = .ok (.iaload, 1) := by decide +kernel
theorem dX9_seatFurther_6 : decode cX9_seatFurther 6 = .ok (.istore_n 3, 1) := by decide +kernel
theorem dX9_seatFurther_7 : decode cX9_seatFurther 7 = .ok (.iload_n 3, 1) := by decide +kernel
theorem dX9_seatFurther_8 : decode cX9_seatFurther 8 = .ok (.iconst (-1), 1) := by decide +kernel
theorem dX9_seatFurther_9 : decode cX9_seatFurther 9 = .ok (.if_icmp .eq 57, 3) := by decide +kernel
theorem dX9_seatFurther_12 : decode cX9_seatFurther 12 = .ok (.aload_n 0, 1) := by decide +kernel
theorem dX9_seatFurther_13 : decode cX9_seatFurther 13 = .ok (.getfield 15, 3) := by decide +kernel
theorem dX9_seatFurther_16 : decode cX9_seatFurther 16 = .ok (.iload_n 3, 1) := by decide +kernel
theorem dX9_seatFurther_17 : decode cX9_seatFurther 17 = .ok (.dup2, 1) := by decide +kernel
theorem dX9_seatFurther_18 : decode cX9_seatFurther 18 = .ok (.iaload, 1) := by decide +kernel
theorem dX9_seatFurther_19 : decode cX9_seatFurther 19 = .ok (.iconst 1, 1) := by decide +kernel
theorem dX9_seatFurther_20 : decode cX9_seatFurther 20 = .ok (.isub, 1) := by decide +kernel
theorem dX9_seatFurther_21 : decode cX9_seatFurther 21 = .ok (.iastore, 1) := by decide +kernel
theorem dX9_seatFurther_22 : decode cX9_seatFurther 22 = .ok (.aload_n 0, 1) := by decide +kernel
theorem dX9_seatFurther_23 : decode cX9_seatFurther 23 = .ok (.dup, 1) := by decide +kernel
theorem dX9_seatFurther_24 : decode cX9_seatFurther 24 = .ok (.getfield 22, 3) := by decide +kernel
theorem dX9_seatFurther_27 : decode cX9_seatFurther 27 = .ok (.aload_n 2, 1) := by decide +kernel
theorem dX9_seatFurther_28 : decode cX9_seatFurther 28 = .ok (.getfield 78, 3) := by decide +kernel
theorem dX9_seatFurther_31 : decode cX9_seatFurther 31 = .ok (.iload_n 1, 1) := by decide +kernel
theorem dX9_seatFurther_32 : decode cX9_seatFurther 32 = .ok (.iaload, 1) := by decide +kernel
theorem dX9_seatFurther_33 : decode cX9_seatFurther 33 = .ok (.aload_n 2, 1) := by decide +kernel
theorem dX9_seatFurther_34 : decode cX9_seatFurther 34 = .ok (.getfield 44, 3) := by decide +kernel
theorem dX9_seatFurther_37 : decode cX9_seatFurther 37 = .ok (.iload_n 3, 1) := by decide +kernel
theorem dX9_seatFurther_38 : decode cX9_seatFurther 38 = .ok (.iaload, 1) := by decide +kernel
theorem dX9_seatFurther_39 : decode cX9_seatFurther 39 = .ok (.imul, 1) := by decide +kernel
theorem dX9_seatFurther_40 : decode cX9_seatFurther 40 = .ok (.isub, 1) := by decide +kernel
theorem dX9_seatFurther_41 : decode cX9_seatFurther 41 = .ok (.putfield 22, 3) := by decide +kernel
theorem dX9_seatFurther_44 : decode cX9_seatFurther 44 = .ok (.aload_n 0, 1) := by decide +kernel
theorem dX9_seatFurther_45 : decode cX9_seatFurther 45 = .ok (.dup, 1) := by decide +kernel
theorem dX9_seatFurther_46 : decode cX9_seatFurther 46 = .ok (.getfield 26, 3) := by decide +kernel
theorem dX9_seatFurther_49 : decode cX9_seatFurther 49 = .ok (.aload_n 2, 1) := by decide +kernel
theorem dX9_seatFurther_50 : decode cX9_seatFurther 50 = .ok (.getfield 78, 3) := by decide +kernel
theorem dX9_seatFurther_53 : decode cX9_seatFurther 53 = .ok (.iload_n 1, 1) := by decide +kernel
theorem dX9_seatFurther_54 : decode cX9_seatFurther 54 = .ok (.iaload, 1) := by decide +kernel
theorem dX9_seatFurther_55 : decode cX9_seatFurther 55 = .ok (.aload_n 2, 1) := by decide +kernel
theorem dX9_seatFurther_56 : decode cX9_seatFurther 56 = .ok (.getfield 53, 3) := by decide +kernel
theorem dX9_seatFurther_59 : decode cX9_seatFurther 59 = .ok (.iload_n 3, 1) := by decide +kernel
theorem dX9_seatFurther_60 : decode cX9_seatFurther 60 = .ok (.iaload, 1) := by decide +kernel
theorem dX9_seatFurther_61 : decode cX9_seatFurther 61 = .ok (.imul, 1) := by decide +kernel
theorem dX9_seatFurther_62 : decode cX9_seatFurther 62 = .ok (.isub, 1) := by decide +kernel
theorem dX9_seatFurther_63 : decode cX9_seatFurther 63 = .ok (.putfield 26, 3) := by decide +kernel
theorem dX9_seatFurther_66 : decode cX9_seatFurther 66 = .ok (.iload_n 3, 1) := by decide +kernel
theorem dX9_seatFurther_67 : decode cX9_seatFurther 67 = .ok (.iconst 1, 1) := by decide +kernel
theorem dX9_seatFurther_68 : decode cX9_seatFurther 68 = .ok (.iadd, 1) := by decide +kernel
theorem dX9_seatFurther_69 : decode cX9_seatFurther 69 = .ok (.istore 4, 2) := by decide +kernel
theorem dX9_seatFurther_71 : decode cX9_seatFurther 71 = .ok (.iload 4, 2) := by decide +kernel
theorem dX9_seatFurther_73 : decode cX9_seatFurther 73 = .ok (.aload_n 2, 1) := by decide +kernel
theorem dX9_seatFurther_74 : decode cX9_seatFurther 74 = .ok (.getfield 81, 3) := by decide +kernel
theorem dX9_seatFurther_77 : decode cX9_seatFurther 77 = .ok (.if_icmp .ge 93, 3) := by decide +kernel
theorem dX9_seatFurther_80 : decode cX9_seatFurther 80 = .ok (.aload_n 0, 1) := by decide +kernel
theorem dX9_seatFurther_81 : decode cX9_seatFurther 81 = .ok (.getfield 15, 3) := by decide +kernel
theorem dX9_seatFurther_84 : decode cX9_seatFurther 84 = .ok (.iload 4, 2) := by decide +kernel
theorem dX9_seatFurther_86 : decode cX9_seatFurther 86 = .ok (.iaload, 1) := by decide +kernel
theorem dX9_seatFurther_87 : decode cX9_seatFurther 87 = .ok (.aload_n 2, 1) := by decide +kernel
theorem dX9_seatFurther_88 : decode cX9_seatFurther 88 = .ok (.getfield 84, 3) := by decide +kernel
theorem dX9_seatFurther_91 : decode cX9_seatFurther 91 = .ok (.iload 4, 2) := by decide +kernel
theorem dX9_seatFurther_93 : decode cX9_seatFurther 93 = .ok (.iaload, 1) := by decide +kernel
theorem dX9_seatFurther_94 : decode cX9_seatFurther 94 = .ok (.if_icmp .ge 70, 3) := by decide +kernel
theorem dX9_seatFurther_97 : decode cX9_seatFurther 97 = .ok (.aload_n 0, 1) := by decide +kernel
theorem dX9_seatFurther_98 : decode cX9_seatFurther 98 = .ok (.getfield 9, 3) := by decide +kernel
theorem dX9_seatFurther_101 : decode cX9_seatFurther 101 = .ok (.iload_n 1, 1) := by decide +kernel
theorem dX9_seatFurther_102 : decode cX9_seatFurther 102 = .ok (.iload 4, 2) := by decide +kernel
theorem dX9_seatFurther_104 : decode cX9_seatFurther 104 = .ok (.iastore, 1) := by decide +kernel
theorem dX9_seatFurther_105 : decode cX9_seatFurther 105 = .ok (.aload_n 0, 1) := by decide +kernel
theorem dX9_seatFurther_106 : decode cX9_seatFurther 106 = .ok (.getfield 15, 3) := by decide +kernel
theorem dX9_seatFurther_109 : decode cX9_seatFurther 109 = .ok (.iload 4, 2) := by decide +kernel
theorem dX9_seatFurther_111 : decode cX9_seatFurther 111 = .ok (.dup2, 1) := by decide +kernel
theorem dX9_seatFurther_112 : decode cX9_seatFurther 112 = .ok (.iaload, 1) := by decide +kernel
theorem dX9_seatFurther_113 : decode cX9_seatFurther 113 = .ok (.iconst 1, 1) := by decide +kernel
theorem dX9_seatFurther_114 : decode cX9_seatFurther 114 = .ok (.iadd, 1) := by decide +kernel
theorem dX9_seatFurther_115 : decode cX9_seatFurther 115 = .ok (.iastore, 1) := by decide +kernel
theorem dX9_seatFurther_116 : decode cX9_seatFurther 116 = .ok (.aload_n 0, 1) := by decide +kernel
theorem dX9_seatFurther_117 : decode cX9_seatFurther 117 = .ok (.dup, 1) := by decide +kernel
theorem dX9_seatFurther_118 : decode cX9_seatFurther 118 = .ok (.getfield 22, 3) := by decide +kernel
theorem dX9_seatFurther_121 : decode cX9_seatFurther 121 = .ok (.aload_n 2, 1) := by decide +kernel
theorem dX9_seatFurther_122 : decode cX9_seatFurther 122 = .ok (.getfield 78, 3) := by decide +kernel
theorem dX9_seatFurther_125 : decode cX9_seatFurther 125 = .ok (.iload_n 1, 1) := by decide +kernel
theorem dX9_seatFurther_126 : decode cX9_seatFurther 126 = .ok (.iaload, 1) := by decide +kernel
theorem dX9_seatFurther_127 : decode cX9_seatFurther 127 = .ok (.aload_n 2, 1) := by decide +kernel
theorem dX9_seatFurther_128 : decode cX9_seatFurther 128 = .ok (.getfield 44, 3) := by decide +kernel
theorem dX9_seatFurther_131 : decode cX9_seatFurther 131 = .ok (.iload 4, 2) := by decide +kernel
theorem dX9_seatFurther_133 : decode cX9_seatFurther 133 = .ok (.iaload, 1) := by decide +kernel
theorem dX9_seatFurther_134 : decode cX9_seatFurther 134 = .ok (.imul, 1) := by decide +kernel
theorem dX9_seatFurther_135 : decode cX9_seatFurther 135 = .ok (.iadd, 1) := by decide +kernel
theorem dX9_seatFurther_136 : decode cX9_seatFurther 136 = .ok (.putfield 22, 3) := by decide +kernel
theorem dX9_seatFurther_139 : decode cX9_seatFurther 139 = .ok (.aload_n 0, 1) := by decide +kernel
theorem dX9_seatFurther_140 : decode cX9_seatFurther 140 = .ok (.dup, 1) := by decide +kernel
theorem dX9_seatFurther_141 : decode cX9_seatFurther 141 = .ok (.getfield 26, 3) := by decide +kernel
theorem dX9_seatFurther_144 : decode cX9_seatFurther 144 = .ok (.aload_n 2, 1) := by decide +kernel
theorem dX9_seatFurther_145 : decode cX9_seatFurther 145 = .ok (.getfield 78, 3) := by decide +kernel
theorem dX9_seatFurther_148 : decode cX9_seatFurther 148 = .ok (.iload_n 1, 1) := by decide +kernel
theorem dX9_seatFurther_149 : decode cX9_seatFurther 149 = .ok (.iaload, 1) := by decide +kernel
theorem dX9_seatFurther_150 : decode cX9_seatFurther 150 = .ok (.aload_n 2, 1) := by decide +kernel
theorem dX9_seatFurther_151 : decode cX9_seatFurther 151 = .ok (.getfield 53, 3) := by decide +kernel
theorem dX9_seatFurther_154 : decode cX9_seatFurther 154 = .ok (.iload 4, 2) := by decide +kernel
theorem dX9_seatFurther_156 : decode cX9_seatFurther 156 = .ok (.iaload, 1) := by decide +kernel
theorem dX9_seatFurther_157 : decode cX9_seatFurther 157 = .ok (.imul, 1) := by decide +kernel
theorem dX9_seatFurther_158 : decode cX9_seatFurther 158 = .ok (.iadd, 1) := by decide +kernel
theorem dX9_seatFurther_159 : decode cX9_seatFurther 159 = .ok (.putfield 26, 3) := by decide +kernel
theorem dX9_seatFurther_162 : decode cX9_seatFurther 162 = .ok (.iconst 1, 1) := by decide +kernel
theorem dX9_seatFurther_163 : decode cX9_seatFurther 163 = .ok (.ireturn, 1) := by decide +kernel
theorem dX9_seatFurther_164 : decode cX9_seatFurther 164 = .ok (.iinc 4 1, 3) := by decide +kernel
theorem dX9_seatFurther_167 : decode cX9_seatFurther 167 = .ok (.goto (-96), 3) := by decide +kernel
theorem dX9_seatFurther_170 : decode cX9_seatFurther 170 = .ok (.aload_n 0, 1) := by decide +kernel
theorem dX9_seatFurther_171 : decode cX9_seatFurther 171 = .ok (.getfield 9, 3) := by decide +kernel
theorem dX9_seatFurther_174 : decode cX9_seatFurther 174 = .ok (.iload_n 1, 1) := by decide +kernel
theorem dX9_seatFurther_175 : decode cX9_seatFurther 175 = .ok (.iconst (-1), 1) := by decide +kernel
theorem dX9_seatFurther_176 : decode cX9_seatFurther 176 = .ok (.iastore, 1) := by decide +kernel
theorem dX9_seatFurther_177 : decode cX9_seatFurther 177 = .ok (.iconst 0, 1) := by decide +kernel
theorem dX9_seatFurther_178 : decode cX9_seatFurther 178 = .ok (.ireturn, 1) := by decide +kernel
set_option maxRecDepth 100000 in
def F_X9_seatFurther_l71 (v0 : Nat) (v1 : Int32) (v2 : Nat) (v4 : Int32) (h : Hp) : Option (Int32 ⊕ (Unit ⊕ Int32)) :=
  gd (decide (kd h v2 = 2)) <| (if (zI h v2 0) ≤ v4 then some (.inr (.inl ())) else gd (decide (kd h v0 = 8)) <| ob (zR h v0 1) fun q8 => gd (decide (kd h q8 = 13)) <| gd (ix v4 (zl h q8)) <| ob (zR h v2 3) fun q12 => gd (decide (kd h q12 = 13)) <| gd (ix v4 (zl h q12)) <| (if (zI h q12 (v4).toNatClampNeg) ≤ (zI h q8 (v4).toNatClampNeg) then some (.inl (v4 + (1 : Int32))) else some (.inr (.inr v4))))
set_option maxHeartbeats 4000000 in
set_option maxRecDepth 100000 in
theorem r_X9_seatFurther_l71 (v0 : Nat) (v1 : Int32) (v2 : Nat) (v4 : Int32) (h : Hp) {x : Cx} {o : (Int32 ⊕ (Unit ⊕ Int32))} (e : F_X9_seatFurther_l71 v0 v1 v2 v4 h = some o) (kI : ∀ z, o = .inl z → V M_X9_seatFurther x 0 71 [(0, .ref v0), (1, .int v1), (2, .ref v2), (4, .int z)] [] h 0 0) (kE170 : ∀ z : Unit, o = .inr (.inl z) → V M_X9_seatFurther x 0 170 [(0, .ref v0), (1, .int v1)] [] h 0 0) (kE97 : ∀ z : Int32, o = .inr (.inr z) → V M_X9_seatFurther x 0 97 [(0, .ref v0), (1, .int v1), (2, .ref v2), (4, .int z)] [] h 0 0) : V M_X9_seatFurther x 0 71 [(0, .ref v0), (1, .int v1), (2, .ref v2), (4, .int v4)] [] h 0 0 := by
  unfold F_X9_seatFurther_l71 at e
  refine V_iload (pc := 71) (i := 4) dX9_seatFurther_71 rfl ?_
  refine V_aload_n (pc := 73) (i := 2) dX9_seatFurther_73 rfl rfl ?_
  obtain ⟨g6, e⟩ := gd_some e
  refine V_getI (pc := 74) (ci := 2) (k := 0) dX9_seatFurther_74 fl_X9_81 rfl (of_decide_eq_true g6) ?_
  refine V_icmp_ge (pc := 77) (tgt := 170) dX9_seatFurther_77 (by decide) (fun c17 => ?_) (fun c17 => ?_)
  · rw [if_pos c17] at e
    cases e
    exact V_pick [0, 1] rfl (kE170 () rfl)
  · rw [if_neg c17] at e
    refine V_pick [0, 1, 2, 3] rfl ?_
    refine V_aload_n (pc := 80) (i := 0) dX9_seatFurther_80 rfl rfl ?_
    obtain ⟨g7, e⟩ := gd_some e
    obtain ⟨q8, g9, e⟩ := ob_some e
    refine V_getR (pc := 81) (ci := 8) (k := 1) (b := q8) dX9_seatFurther_81 fl_X9_15 rfl (of_decide_eq_true g7) g9 ?_
    refine V_iload (pc := 84) (i := 4) dX9_seatFurther_84 rfl ?_
    obtain ⟨g10, e⟩ := gd_some e
    obtain ⟨g11, e⟩ := gd_some e
    refine V_iald (pc := 86) dX9_seatFurther_86 (of_decide_eq_true g10) (ix_in g11) ?_
    refine V_aload_n (pc := 87) (i := 2) dX9_seatFurther_87 rfl rfl ?_
    obtain ⟨q12, g13, e⟩ := ob_some e
    refine V_getR (pc := 88) (ci := 2) (k := 3) (b := q12) dX9_seatFurther_88 fl_X9_84 rfl (of_decide_eq_true g6) g13 ?_
    refine V_iload (pc := 91) (i := 4) dX9_seatFurther_91 rfl ?_
    obtain ⟨g14, e⟩ := gd_some e
    obtain ⟨g15, e⟩ := gd_some e
    refine V_iald (pc := 93) dX9_seatFurther_93 (of_decide_eq_true g14) (ix_in g15) ?_
    refine V_icmp_ge (pc := 94) (tgt := 164) dX9_seatFurther_94 (by decide) (fun c16 => ?_) (fun c16 => ?_)
    · rw [if_pos c16] at e
      refine V_pick [0, 1, 2, 3] rfl ?_
      refine V_iinc (pc := 164) (i := 4) (u := v4 + (1 : Int32)) (lv' := [(4, .int (v4 + (1 : Int32))), (0, .ref v0), (1, .int v1), (2, .ref v2)]) dX9_seatFurther_164 rfl rfl (by decide) rfl ?_
      refine V_goto (pc := 167) (tgt := 71) dX9_seatFurther_167 (by decide) ?_
      cases e
      exact V_pick [1, 2, 3, 0] rfl (kI (v4 + (1 : Int32)) rfl)
    · rw [if_neg c16] at e
      cases e
      exact V_pick [0, 1, 2, 3] rfl (kE97 v4 rfl)
set_option maxRecDepth 100000 in
def F_X9_seatFurther_b66 (v0 : Nat) (v1 : Int32) (v2 : Nat) (v3 : Int32) (h : Hp) : Option (Int32 × Hp) :=
  ob (iter (fun z : Int32 => F_X9_seatFurther_l71 v0 v1 v2 z h) FU (v3 + (1 : Int32))) (fun z => sm z (fun _ => gd (decide (kd h v0 = 8)) <| ob (zR h v0 0) fun q19 => gd (decide (kd h q19 = 13)) <| gd (ix v1 (zl h q19)) <| some ((0 : Int32), setI h q19 (v1).toNatClampNeg (-1 : Int32))) (fun w23 => gd (decide (kd h v0 = 8)) <| ob (zR h v0 0) fun q25 => gd (decide (kd h q25 = 13)) <| gd (ix v1 (zl h q25)) <| ob (zR (setI h q25 (v1).toNatClampNeg w23) v0 1) fun q29 => gd (decide (kd (setI h q25 (v1).toNatClampNeg w23) q29 = 13)) <| gd (ix w23 (zl (setI h q25 (v1).toNatClampNeg w23) q29)) <| gd (ix w23 (zl (setI h q25 (v1).toNatClampNeg w23) q29)) <| ob (some (setI (setI h q25 (v1).toNatClampNeg w23) q29 (w23).toNatClampNeg ((zI (setI h q25 (v1).toNatClampNeg w23) q29 (w23).toNatClampNeg) + (1 : Int32)))) fun h34 => gd (decide (kd h34 v2 = 2)) <| ob (zR h34 v2 6) fun q40 => gd (decide (kd h34 q40 = 13)) <| gd (ix v1 (zl h34 q40)) <| ob (zR h34 v2 1) fun q44 => gd (decide (kd h34 q44 = 13)) <| gd (ix w23 (zl h34 q44)) <| ob (zR (setI h34 v0 3 ((zI h34 v0 3) + ((zI h34 q40 (v1).toNatClampNeg) * (zI h34 q44 (w23).toNatClampNeg)))) v2 6) fun q48 => gd (decide (kd (setI h34 v0 3 ((zI h34 v0 3) + ((zI h34 q40 (v1).toNatClampNeg) * (zI h34 q44 (w23).toNatClampNeg)))) q48 = 13)) <| gd (ix v1 (zl (setI h34 v0 3 ((zI h34 v0 3) + ((zI h34 q40 (v1).toNatClampNeg) * (zI h34 q44 (w23).toNatClampNeg)))) q48)) <| ob (zR (setI h34 v0 3 ((zI h34 v0 3) + ((zI h34 q40 (v1).toNatClampNeg) * (zI h34 q44 (w23).toNatClampNeg)))) v2 2) fun q52 => gd (decide (kd (setI h34 v0 3 ((zI h34 v0 3) + ((zI h34 q40 (v1).toNatClampNeg) * (zI h34 q44 (w23).toNatClampNeg)))) q52 = 13)) <| gd (ix w23 (zl (setI h34 v0 3 ((zI h34 v0 3) + ((zI h34 q40 (v1).toNatClampNeg) * (zI h34 q44 (w23).toNatClampNeg)))) q52)) <| ob (some (setI (setI h34 v0 3 ((zI h34 v0 3) + ((zI h34 q40 (v1).toNatClampNeg) * (zI h34 q44 (w23).toNatClampNeg)))) v0 4 ((zI (setI h34 v0 3 ((zI h34 v0 3) + ((zI h34 q40 (v1).toNatClampNeg) * (zI h34 q44 (w23).toNatClampNeg)))) v0 4) + ((zI (setI h34 v0 3 ((zI h34 v0 3) + ((zI h34 q40 (v1).toNatClampNeg) * (zI h34 q44 (w23).toNatClampNeg)))) q48 (v1).toNatClampNeg) * (zI (setI h34 v0 3 ((zI h34 v0 3) + ((zI h34 q40 (v1).toNatClampNeg) * (zI h34 q44 (w23).toNatClampNeg)))) q52 (w23).toNatClampNeg))))) fun h56 => some ((1 : Int32), h56)))
set_option maxHeartbeats 4000000 in
set_option maxRecDepth 100000 in
theorem r_X9_seatFurther_b66 (v0 : Nat) (v1 : Int32) (v2 : Nat) (v3 : Int32) (h : Hp) {x : Cx} {r : Int32} {hz : Hp} (e : F_X9_seatFurther_b66 v0 v1 v2 v3 h = some (r, hz)) (hF : Fin9 M_X9_seatFurther x (some .boolean) (some (.int r)) hz) : V M_X9_seatFurther x 0 66 [(0, .ref v0), (1, .int v1), (2, .ref v2), (3, .int v3)] [] h 0 0 := by
  unfold F_X9_seatFurther_b66 at e
  refine V_iload_n (pc := 66) (i := 3) dX9_seatFurther_66 rfl rfl ?_
  refine V_iconst (pc := 67) (v := (1 : Int32)) dX9_seatFurther_67 (by decide) ?_
  refine V_iadd (pc := 68) dX9_seatFurther_68 ?_
  refine V_istore (pc := 69) (i := 4) (lv' := [(4, .int (v3 + (1 : Int32))), (0, .ref v0), (1, .int v1), (2, .ref v2), (3, .int v3)]) dX9_seatFurther_69 (by decide) rfl ?_
  refine V_pick [1, 2, 3, 0] rfl ?_
  obtain ⟨y66, g67, e⟩ := ob_some e
  refine iter_V (P := fun z : Int32 => V M_X9_seatFurther x 0 71 [(0, .ref v0), (1, .int v1), (2, .ref v2), (4, .int z)] [] h 0 0) (E := fun z => Sum.elim (fun z : Unit => V M_X9_seatFurther x 0 170 [(0, .ref v0), (1, .int v1)] [] h 0 0) (fun z : Int32 => V M_X9_seatFurther x 0 97 [(0, .ref v0), (1, .int v1), (2, .ref v2), (4, .int z)] [] h 0 0) z) (fun z o e9 k1 k2 => r_X9_seatFurther_l71 v0 v1 v2 z h e9 (fun z hz9 => k1 z hz9) (fun z hz9 => k2 _ hz9) (fun z hz9 => k2 _ hz9)) _ _ _ g67 ?_
  clear g67
  rcases y66 with y68 | y69
  · replace e : (gd (decide (kd h v0 = 8)) <| ob (zR h v0 0) fun q19 => gd (decide (kd h q19 = 13)) <| gd (ix v1 (zl h q19)) <| some ((0 : Int32), setI h q19 (v1).toNatClampNeg (-1 : Int32))) = some (r, hz) := e
    show V M_X9_seatFurther x 0 170 [(0, .ref v0), (1, .int v1)] [] h 0 0
    refine V_aload_n (pc := 170) (i := 0) dX9_seatFurther_170 rfl rfl ?_
    obtain ⟨g18, e⟩ := gd_some e
    obtain ⟨q19, g20, e⟩ := ob_some e
    refine V_getR (pc := 171) (ci := 8) (k := 0) (b := q19) dX9_seatFurther_171 fl_X9_9 rfl (of_decide_eq_true g18) g20 ?_
    refine V_iload_n (pc := 174) (i := 1) dX9_seatFurther_174 rfl rfl ?_
    refine V_iconst (pc := 175) (v := (-1 : Int32)) dX9_seatFurther_175 (by decide) ?_
    obtain ⟨g21, e⟩ := gd_some e
    obtain ⟨g22, e⟩ := gd_some e
    refine V_iast (pc := 176) dX9_seatFurther_176 (of_decide_eq_true g21) (ix_in g22) ?_
    refine V_iconst (pc := 177) (v := (0 : Int32)) dX9_seatFurther_177 (by decide) ?_
    cases e
    exact V_zret (pc := 178) dX9_seatFurther_178 rfl hF
  · obtain ⟨w23, rfl⟩ : ∃ q, q = y69 := ⟨_, rfl⟩
    replace e : (gd (decide (kd h v0 = 8)) <| ob (zR h v0 0) fun q25 => gd (decide (kd h q25 = 13)) <| gd (ix v1 (zl h q25)) <| ob (zR (setI h q25 (v1).toNatClampNeg w23) v0 1) fun q29 => gd (decide (kd (setI h q25 (v1).toNatClampNeg w23) q29 = 13)) <| gd (ix w23 (zl (setI h q25 (v1).toNatClampNeg w23) q29)) <| gd (ix w23 (zl (setI h q25 (v1).toNatClampNeg w23) q29)) <| ob (some (setI (setI h q25 (v1).toNatClampNeg w23) q29 (w23).toNatClampNeg ((zI (setI h q25 (v1).toNatClampNeg w23) q29 (w23).toNatClampNeg) + (1 : Int32)))) fun h34 => gd (decide (kd h34 v2 = 2)) <| ob (zR h34 v2 6) fun q40 => gd (decide (kd h34 q40 = 13)) <| gd (ix v1 (zl h34 q40)) <| ob (zR h34 v2 1) fun q44 => gd (decide (kd h34 q44 = 13)) <| gd (ix w23 (zl h34 q44)) <| ob (zR (setI h34 v0 3 ((zI h34 v0 3) + ((zI h34 q40 (v1).toNatClampNeg) * (zI h34 q44 (w23).toNatClampNeg)))) v2 6) fun q48 => gd (decide (kd (setI h34 v0 3 ((zI h34 v0 3) + ((zI h34 q40 (v1).toNatClampNeg) * (zI h34 q44 (w23).toNatClampNeg)))) q48 = 13)) <| gd (ix v1 (zl (setI h34 v0 3 ((zI h34 v0 3) + ((zI h34 q40 (v1).toNatClampNeg) * (zI h34 q44 (w23).toNatClampNeg)))) q48)) <| ob (zR (setI h34 v0 3 ((zI h34 v0 3) + ((zI h34 q40 (v1).toNatClampNeg) * (zI h34 q44 (w23).toNatClampNeg)))) v2 2) fun q52 => gd (decide (kd (setI h34 v0 3 ((zI h34 v0 3) + ((zI h34 q40 (v1).toNatClampNeg) * (zI h34 q44 (w23).toNatClampNeg)))) q52 = 13)) <| gd (ix w23 (zl (setI h34 v0 3 ((zI h34 v0 3) + ((zI h34 q40 (v1).toNatClampNeg) * (zI h34 q44 (w23).toNatClampNeg)))) q52)) <| ob (some (setI (setI h34 v0 3 ((zI h34 v0 3) + ((zI h34 q40 (v1).toNatClampNeg) * (zI h34 q44 (w23).toNatClampNeg)))) v0 4 ((zI (setI h34 v0 3 ((zI h34 v0 3) + ((zI h34 q40 (v1).toNatClampNeg) * (zI h34 q44 (w23).toNatClampNeg)))) v0 4) + ((zI (setI h34 v0 3 ((zI h34 v0 3) + ((zI h34 q40 (v1).toNatClampNeg) * (zI h34 q44 (w23).toNatClampNeg)))) q48 (v1).toNatClampNeg) * (zI (setI h34 v0 3 ((zI h34 v0 3) + ((zI h34 q40 (v1).toNatClampNeg) * (zI h34 q44 (w23).toNatClampNeg)))) q52 (w23).toNatClampNeg))))) fun h56 => some ((1 : Int32), h56)) = some (r, hz) := e
    show V M_X9_seatFurther x 0 97 [(0, .ref v0), (1, .int v1), (2, .ref v2), (4, .int w23)] [] h 0 0
    refine V_aload_n (pc := 97) (i := 0) dX9_seatFurther_97 rfl rfl ?_
    obtain ⟨g24, e⟩ := gd_some e
    obtain ⟨q25, g26, e⟩ := ob_some e
    refine V_getR (pc := 98) (ci := 8) (k := 0) (b := q25) dX9_seatFurther_98 fl_X9_9 rfl (of_decide_eq_true g24) g26 ?_
    refine V_iload_n (pc := 101) (i := 1) dX9_seatFurther_101 rfl rfl ?_
    refine V_iload (pc := 102) (i := 4) dX9_seatFurther_102 rfl ?_
    obtain ⟨g27, e⟩ := gd_some e
    obtain ⟨g28, e⟩ := gd_some e
    refine V_iast (pc := 104) dX9_seatFurther_104 (of_decide_eq_true g27) (ix_in g28) ?_
    refine V_aload_n (pc := 105) (i := 0) dX9_seatFurther_105 rfl rfl ?_
    obtain ⟨q29, g30, e⟩ := ob_some e
    refine V_getR (pc := 106) (ci := 8) (k := 1) (b := q29) dX9_seatFurther_106 fl_X9_15 rfl (kd_sI (of_decide_eq_true g24)) g30 ?_
    refine V_iload (pc := 109) (i := 4) dX9_seatFurther_109 rfl ?_
    refine V_dup2 (pc := 111) dX9_seatFurther_111 rfl rfl ?_
    obtain ⟨g31, e⟩ := gd_some e
    obtain ⟨g32, e⟩ := gd_some e
    refine V_iald (pc := 112) dX9_seatFurther_112 (of_decide_eq_true g31) (ix_in g32) ?_
    refine V_iconst (pc := 113) (v := (1 : Int32)) dX9_seatFurther_113 (by decide) ?_
    refine V_iadd (pc := 114) dX9_seatFurther_114 ?_
    obtain ⟨g33, e⟩ := gd_some e
    refine V_iast (pc := 115) dX9_seatFurther_115 (of_decide_eq_true g31) (ix_in g33) ?_
    obtain ⟨h34, g35, e⟩ := ob_some e
    refine V_hp (Option.some.inj g35) ?_
    have k36 : kd h34 v0 = 8 := kd_eq (h := (setI (setI h q25 (v1).toNatClampNeg w23) q29 (w23).toNatClampNeg ((zI (setI h q25 (v1).toNatClampNeg w23) q29 (w23).toNatClampNeg) + (1 : Int32)))) (Option.some.inj g35) (kd_sI (kd_sI (of_decide_eq_true g24)))
    have k37 : kd h34 q25 = 13 := kd_eq (h := (setI (setI h q25 (v1).toNatClampNeg w23) q29 (w23).toNatClampNeg ((zI (setI h q25 (v1).toNatClampNeg w23) q29 (w23).toNatClampNeg) + (1 : Int32)))) (Option.some.inj g35) (kd_sI (kd_sI (of_decide_eq_true g27)))
    have k38 : kd h34 q29 = 13 := kd_eq (h := (setI (setI h q25 (v1).toNatClampNeg w23) q29 (w23).toNatClampNeg ((zI (setI h q25 (v1).toNatClampNeg w23) q29 (w23).toNatClampNeg) + (1 : Int32)))) (Option.some.inj g35) (kd_sI (of_decide_eq_true g31))
    refine V_aload_n (pc := 116) (i := 0) dX9_seatFurther_116 rfl rfl ?_
    refine V_dup (pc := 117) dX9_seatFurther_117 rfl ?_
    refine V_getI (pc := 118) (ci := 8) (k := 3) dX9_seatFurther_118 fl_X9_22 rfl k36 ?_
    refine V_aload_n (pc := 121) (i := 2) dX9_seatFurther_121 rfl rfl ?_
    obtain ⟨g39, e⟩ := gd_some e
    obtain ⟨q40, g41, e⟩ := ob_some e
    refine V_getR (pc := 122) (ci := 2) (k := 6) (b := q40) dX9_seatFurther_122 fl_X9_78 rfl (of_decide_eq_true g39) g41 ?_
    refine V_iload_n (pc := 125) (i := 1) dX9_seatFurther_125 rfl rfl ?_
    obtain ⟨g42, e⟩ := gd_some e
    obtain ⟨g43, e⟩ := gd_some e
    refine V_iald (pc := 126) dX9_seatFurther_126 (of_decide_eq_true g42) (ix_in g43) ?_
    refine V_aload_n (pc := 127) (i := 2) dX9_seatFurther_127 rfl rfl ?_
    obtain ⟨q44, g45, e⟩ := ob_some e
    refine V_getR (pc := 128) (ci := 2) (k := 1) (b := q44) dX9_seatFurther_128 fl_X9_44 rfl (of_decide_eq_true g39) g45 ?_
    refine V_iload (pc := 131) (i := 4) dX9_seatFurther_131 rfl ?_
    obtain ⟨g46, e⟩ := gd_some e
    obtain ⟨g47, e⟩ := gd_some e
    refine V_iald (pc := 133) dX9_seatFurther_133 (of_decide_eq_true g46) (ix_in g47) ?_
    refine V_imul (pc := 134) dX9_seatFurther_134 ?_
    refine V_iadd (pc := 135) dX9_seatFurther_135 ?_
    refine V_putI (pc := 136) (ci := 8) (k := 3) dX9_seatFurther_136 fp_X9_22 rfl k36 ?_
    refine V_aload_n (pc := 139) (i := 0) dX9_seatFurther_139 rfl rfl ?_
    refine V_dup (pc := 140) dX9_seatFurther_140 rfl ?_
    refine V_getI (pc := 141) (ci := 8) (k := 4) dX9_seatFurther_141 fl_X9_26 rfl (kd_sI k36) ?_
    refine V_aload_n (pc := 144) (i := 2) dX9_seatFurther_144 rfl rfl ?_
    obtain ⟨q48, g49, e⟩ := ob_some e
    refine V_getR (pc := 145) (ci := 2) (k := 6) (b := q48) dX9_seatFurther_145 fl_X9_78 rfl (kd_sI (of_decide_eq_true g39)) g49 ?_
    refine V_iload_n (pc := 148) (i := 1) dX9_seatFurther_148 rfl rfl ?_
    obtain ⟨g50, e⟩ := gd_some e
    obtain ⟨g51, e⟩ := gd_some e
    refine V_iald (pc := 149) dX9_seatFurther_149 (of_decide_eq_true g50) (ix_in g51) ?_
    refine V_aload_n (pc := 150) (i := 2) dX9_seatFurther_150 rfl rfl ?_
    obtain ⟨q52, g53, e⟩ := ob_some e
    refine V_getR (pc := 151) (ci := 2) (k := 2) (b := q52) dX9_seatFurther_151 fl_X9_53 rfl (kd_sI (of_decide_eq_true g39)) g53 ?_
    refine V_iload (pc := 154) (i := 4) dX9_seatFurther_154 rfl ?_
    obtain ⟨g54, e⟩ := gd_some e
    obtain ⟨g55, e⟩ := gd_some e
    refine V_iald (pc := 156) dX9_seatFurther_156 (of_decide_eq_true g54) (ix_in g55) ?_
    refine V_imul (pc := 157) dX9_seatFurther_157 ?_
    refine V_iadd (pc := 158) dX9_seatFurther_158 ?_
    refine V_putI (pc := 159) (ci := 8) (k := 4) dX9_seatFurther_159 fp_X9_26 rfl (kd_sI k36) ?_
    obtain ⟨h56, g57, e⟩ := ob_some e
    refine V_hp (Option.some.inj g57) ?_
    have k58 : kd h56 v0 = 8 := kd_eq (h := (setI (setI h34 v0 3 ((zI h34 v0 3) + ((zI h34 q40 (v1).toNatClampNeg) * (zI h34 q44 (w23).toNatClampNeg)))) v0 4 ((zI (setI h34 v0 3 ((zI h34 v0 3) + ((zI h34 q40 (v1).toNatClampNeg) * (zI h34 q44 (w23).toNatClampNeg)))) v0 4) + ((zI (setI h34 v0 3 ((zI h34 v0 3) + ((zI h34 q40 (v1).toNatClampNeg) * (zI h34 q44 (w23).toNatClampNeg)))) q48 (v1).toNatClampNeg) * (zI (setI h34 v0 3 ((zI h34 v0 3) + ((zI h34 q40 (v1).toNatClampNeg) * (zI h34 q44 (w23).toNatClampNeg)))) q52 (w23).toNatClampNeg))))) (Option.some.inj g57) (kd_sI (kd_sI k36))
    have k59 : kd h56 q25 = 13 := kd_eq (h := (setI (setI h34 v0 3 ((zI h34 v0 3) + ((zI h34 q40 (v1).toNatClampNeg) * (zI h34 q44 (w23).toNatClampNeg)))) v0 4 ((zI (setI h34 v0 3 ((zI h34 v0 3) + ((zI h34 q40 (v1).toNatClampNeg) * (zI h34 q44 (w23).toNatClampNeg)))) v0 4) + ((zI (setI h34 v0 3 ((zI h34 v0 3) + ((zI h34 q40 (v1).toNatClampNeg) * (zI h34 q44 (w23).toNatClampNeg)))) q48 (v1).toNatClampNeg) * (zI (setI h34 v0 3 ((zI h34 v0 3) + ((zI h34 q40 (v1).toNatClampNeg) * (zI h34 q44 (w23).toNatClampNeg)))) q52 (w23).toNatClampNeg))))) (Option.some.inj g57) (kd_sI (kd_sI k37))
    have k60 : kd h56 q29 = 13 := kd_eq (h := (setI (setI h34 v0 3 ((zI h34 v0 3) + ((zI h34 q40 (v1).toNatClampNeg) * (zI h34 q44 (w23).toNatClampNeg)))) v0 4 ((zI (setI h34 v0 3 ((zI h34 v0 3) + ((zI h34 q40 (v1).toNatClampNeg) * (zI h34 q44 (w23).toNatClampNeg)))) v0 4) + ((zI (setI h34 v0 3 ((zI h34 v0 3) + ((zI h34 q40 (v1).toNatClampNeg) * (zI h34 q44 (w23).toNatClampNeg)))) q48 (v1).toNatClampNeg) * (zI (setI h34 v0 3 ((zI h34 v0 3) + ((zI h34 q40 (v1).toNatClampNeg) * (zI h34 q44 (w23).toNatClampNeg)))) q52 (w23).toNatClampNeg))))) (Option.some.inj g57) (kd_sI (kd_sI k38))
    have k61 : kd h56 v2 = 2 := kd_eq (h := (setI (setI h34 v0 3 ((zI h34 v0 3) + ((zI h34 q40 (v1).toNatClampNeg) * (zI h34 q44 (w23).toNatClampNeg)))) v0 4 ((zI (setI h34 v0 3 ((zI h34 v0 3) + ((zI h34 q40 (v1).toNatClampNeg) * (zI h34 q44 (w23).toNatClampNeg)))) v0 4) + ((zI (setI h34 v0 3 ((zI h34 v0 3) + ((zI h34 q40 (v1).toNatClampNeg) * (zI h34 q44 (w23).toNatClampNeg)))) q48 (v1).toNatClampNeg) * (zI (setI h34 v0 3 ((zI h34 v0 3) + ((zI h34 q40 (v1).toNatClampNeg) * (zI h34 q44 (w23).toNatClampNeg)))) q52 (w23).toNatClampNeg))))) (Option.some.inj g57) (kd_sI (kd_sI (of_decide_eq_true g39)))
    have k62 : kd h56 q40 = 13 := kd_eq (h := (setI (setI h34 v0 3 ((zI h34 v0 3) + ((zI h34 q40 (v1).toNatClampNeg) * (zI h34 q44 (w23).toNatClampNeg)))) v0 4 ((zI (setI h34 v0 3 ((zI h34 v0 3) + ((zI h34 q40 (v1).toNatClampNeg) * (zI h34 q44 (w23).toNatClampNeg)))) v0 4) + ((zI (setI h34 v0 3 ((zI h34 v0 3) + ((zI h34 q40 (v1).toNatClampNeg) * (zI h34 q44 (w23).toNatClampNeg)))) q48 (v1).toNatClampNeg) * (zI (setI h34 v0 3 ((zI h34 v0 3) + ((zI h34 q40 (v1).toNatClampNeg) * (zI h34 q44 (w23).toNatClampNeg)))) q52 (w23).toNatClampNeg))))) (Option.some.inj g57) (kd_sI (kd_sI (of_decide_eq_true g42)))
    have k63 : kd h56 q44 = 13 := kd_eq (h := (setI (setI h34 v0 3 ((zI h34 v0 3) + ((zI h34 q40 (v1).toNatClampNeg) * (zI h34 q44 (w23).toNatClampNeg)))) v0 4 ((zI (setI h34 v0 3 ((zI h34 v0 3) + ((zI h34 q40 (v1).toNatClampNeg) * (zI h34 q44 (w23).toNatClampNeg)))) v0 4) + ((zI (setI h34 v0 3 ((zI h34 v0 3) + ((zI h34 q40 (v1).toNatClampNeg) * (zI h34 q44 (w23).toNatClampNeg)))) q48 (v1).toNatClampNeg) * (zI (setI h34 v0 3 ((zI h34 v0 3) + ((zI h34 q40 (v1).toNatClampNeg) * (zI h34 q44 (w23).toNatClampNeg)))) q52 (w23).toNatClampNeg))))) (Option.some.inj g57) (kd_sI (kd_sI (of_decide_eq_true g46)))
    have k64 : kd h56 q48 = 13 := kd_eq (h := (setI (setI h34 v0 3 ((zI h34 v0 3) + ((zI h34 q40 (v1).toNatClampNeg) * (zI h34 q44 (w23).toNatClampNeg)))) v0 4 ((zI (setI h34 v0 3 ((zI h34 v0 3) + ((zI h34 q40 (v1).toNatClampNeg) * (zI h34 q44 (w23).toNatClampNeg)))) v0 4) + ((zI (setI h34 v0 3 ((zI h34 v0 3) + ((zI h34 q40 (v1).toNatClampNeg) * (zI h34 q44 (w23).toNatClampNeg)))) q48 (v1).toNatClampNeg) * (zI (setI h34 v0 3 ((zI h34 v0 3) + ((zI h34 q40 (v1).toNatClampNeg) * (zI h34 q44 (w23).toNatClampNeg)))) q52 (w23).toNatClampNeg))))) (Option.some.inj g57) (kd_sI (of_decide_eq_true g50))
    have k65 : kd h56 q52 = 13 := kd_eq (h := (setI (setI h34 v0 3 ((zI h34 v0 3) + ((zI h34 q40 (v1).toNatClampNeg) * (zI h34 q44 (w23).toNatClampNeg)))) v0 4 ((zI (setI h34 v0 3 ((zI h34 v0 3) + ((zI h34 q40 (v1).toNatClampNeg) * (zI h34 q44 (w23).toNatClampNeg)))) v0 4) + ((zI (setI h34 v0 3 ((zI h34 v0 3) + ((zI h34 q40 (v1).toNatClampNeg) * (zI h34 q44 (w23).toNatClampNeg)))) q48 (v1).toNatClampNeg) * (zI (setI h34 v0 3 ((zI h34 v0 3) + ((zI h34 q40 (v1).toNatClampNeg) * (zI h34 q44 (w23).toNatClampNeg)))) q52 (w23).toNatClampNeg))))) (Option.some.inj g57) (kd_sI (of_decide_eq_true g54))
    refine V_iconst (pc := 162) (v := (1 : Int32)) dX9_seatFurther_162 (by decide) ?_
    cases e
    exact V_zret (pc := 163) dX9_seatFurther_163 rfl hF
set_option maxRecDepth 100000 in
def F_X9_seatFurther_b0 (v0 : Nat) (v1 : Int32) (v2 : Nat) (h : Hp) : Option (Int32 × Hp) :=
  gd (decide (kd h v0 = 8)) <| ob (zR h v0 0) fun q2 => gd (decide (kd h q2 = 13)) <| gd (ix v1 (zl h q2)) <| (if (zI h q2 (v1).toNatClampNeg) = (-1 : Int32) then F_X9_seatFurther_b66 v0 v1 v2 (zI h q2 (v1).toNatClampNeg) h else ob (zR h v0 1) fun q70 => gd (decide (kd h q70 = 13)) <| gd (ix (zI h q2 (v1).toNatClampNeg) (zl h q70)) <| gd (ix (zI h q2 (v1).toNatClampNeg) (zl h q70)) <| ob (some (setI h q70 (zI h q2 (v1).toNatClampNeg).toNatClampNeg ((zI h q70 (zI h q2 (v1).toNatClampNeg).toNatClampNeg) - (1 : Int32)))) fun h75 => gd (decide (kd h75 v2 = 2)) <| ob (zR h75 v2 6) fun q81 => gd (decide (kd h75 q81 = 13)) <| gd (ix v1 (zl h75 q81)) <| ob (zR h75 v2 1) fun q85 => gd (decide (kd h75 q85 = 13)) <| gd (ix (zI h q2 (v1).toNatClampNeg) (zl h75 q85)) <| ob (some (setI h75 v0 3 ((zI h75 v0 3) - ((zI h75 q81 (v1).toNatClampNeg) * (zI h75 q85 (zI h q2 (v1).toNatClampNeg).toNatClampNeg))))) fun h89 => ob (zR h89 v2 6) fun q97 => gd (decide (kd h89 q97 = 13)) <| gd (ix v1 (zl h89 q97)) <| ob (zR h89 v2 2) fun q101 => gd (decide (kd h89 q101 = 13)) <| gd (ix (zI h q2 (v1).toNatClampNeg) (zl h89 q101)) <| ob (some (setI h89 v0 4 ((zI h89 v0 4) - ((zI h89 q97 (v1).toNatClampNeg) * (zI h89 q101 (zI h q2 (v1).toNatClampNeg).toNatClampNeg))))) fun h105 => F_X9_seatFurther_b66 v0 v1 v2 (zI h q2 (v1).toNatClampNeg) h105)
set_option maxHeartbeats 4000000 in
set_option maxRecDepth 100000 in
theorem r_X9_seatFurther_b0 (v0 : Nat) (v1 : Int32) (v2 : Nat) (h : Hp) {x : Cx} {r : Int32} {hz : Hp} (e : F_X9_seatFurther_b0 v0 v1 v2 h = some (r, hz)) (hF : Fin9 M_X9_seatFurther x (some .boolean) (some (.int r)) hz) : V M_X9_seatFurther x 0 0 [(0, .ref v0), (1, .int v1), (2, .ref v2)] [] h 0 0 := by
  unfold F_X9_seatFurther_b0 at e
  refine V_aload_n (pc := 0) (i := 0) dX9_seatFurther_0 rfl rfl ?_
  obtain ⟨g1, e⟩ := gd_some e
  obtain ⟨q2, g3, e⟩ := ob_some e
  refine V_getR (pc := 1) (ci := 8) (k := 0) (b := q2) dX9_seatFurther_1 fl_X9_9 rfl (of_decide_eq_true g1) g3 ?_
  refine V_iload_n (pc := 4) (i := 1) dX9_seatFurther_4 rfl rfl ?_
  obtain ⟨g4, e⟩ := gd_some e
  obtain ⟨g5, e⟩ := gd_some e
  refine V_iald (pc := 5) dX9_seatFurther_5 (of_decide_eq_true g4) (ix_in g5) ?_
  refine V_istore_n (pc := 6) (i := 3) (lv' := [(3, .int (zI h q2 (v1).toNatClampNeg)), (0, .ref v0), (1, .int v1), (2, .ref v2)]) dX9_seatFurther_6 rfl (by decide) rfl ?_
  refine V_iload_n (pc := 7) (i := 3) dX9_seatFurther_7 rfl rfl ?_
  refine V_iconst (pc := 8) (v := (-1 : Int32)) dX9_seatFurther_8 (by decide) ?_
  refine V_icmp_eq (pc := 9) (tgt := 66) dX9_seatFurther_9 (by decide) (fun c115 => ?_) (fun c115 => ?_)
  · rw [if_pos c115] at e
    exact V_pick [1, 2, 3, 0] rfl (r_X9_seatFurther_b66 v0 v1 v2 (zI h q2 (v1).toNatClampNeg) h e hF)
  · rw [if_neg c115] at e
    refine V_pick [1, 2, 3, 0] rfl ?_
    refine V_aload_n (pc := 12) (i := 0) dX9_seatFurther_12 rfl rfl ?_
    obtain ⟨q70, g71, e⟩ := ob_some e
    refine V_getR (pc := 13) (ci := 8) (k := 1) (b := q70) dX9_seatFurther_13 fl_X9_15 rfl (of_decide_eq_true g1) g71 ?_
    refine V_iload_n (pc := 16) (i := 3) dX9_seatFurther_16 rfl rfl ?_
    refine V_dup2 (pc := 17) dX9_seatFurther_17 rfl rfl ?_
    obtain ⟨g72, e⟩ := gd_some e
    obtain ⟨g73, e⟩ := gd_some e
    refine V_iald (pc := 18) dX9_seatFurther_18 (of_decide_eq_true g72) (ix_in g73) ?_
    refine V_iconst (pc := 19) (v := (1 : Int32)) dX9_seatFurther_19 (by decide) ?_
    refine V_isub (pc := 20) dX9_seatFurther_20 ?_
    obtain ⟨g74, e⟩ := gd_some e
    refine V_iast (pc := 21) dX9_seatFurther_21 (of_decide_eq_true g72) (ix_in g74) ?_
    obtain ⟨h75, g76, e⟩ := ob_some e
    refine V_hp (Option.some.inj g76) ?_
    have k77 : kd h75 v0 = 8 := kd_eq (h := (setI h q70 (zI h q2 (v1).toNatClampNeg).toNatClampNeg ((zI h q70 (zI h q2 (v1).toNatClampNeg).toNatClampNeg) - (1 : Int32)))) (Option.some.inj g76) (kd_sI (of_decide_eq_true g1))
    have k78 : kd h75 q2 = 13 := kd_eq (h := (setI h q70 (zI h q2 (v1).toNatClampNeg).toNatClampNeg ((zI h q70 (zI h q2 (v1).toNatClampNeg).toNatClampNeg) - (1 : Int32)))) (Option.some.inj g76) (kd_sI (of_decide_eq_true g4))
    have k79 : kd h75 q70 = 13 := kd_eq (h := (setI h q70 (zI h q2 (v1).toNatClampNeg).toNatClampNeg ((zI h q70 (zI h q2 (v1).toNatClampNeg).toNatClampNeg) - (1 : Int32)))) (Option.some.inj g76) (kd_sI (of_decide_eq_true g72))
    refine V_aload_n (pc := 22) (i := 0) dX9_seatFurther_22 rfl rfl ?_
    refine V_dup (pc := 23) dX9_seatFurther_23 rfl ?_
    refine V_getI (pc := 24) (ci := 8) (k := 3) dX9_seatFurther_24 fl_X9_22 rfl k77 ?_
    refine V_aload_n (pc := 27) (i := 2) dX9_seatFurther_27 rfl rfl ?_
    obtain ⟨g80, e⟩ := gd_some e
    obtain ⟨q81, g82, e⟩ := ob_some e
    refine V_getR (pc := 28) (ci := 2) (k := 6) (b := q81) dX9_seatFurther_28 fl_X9_78 rfl (of_decide_eq_true g80) g82 ?_
    refine V_iload_n (pc := 31) (i := 1) dX9_seatFurther_31 rfl rfl ?_
    obtain ⟨g83, e⟩ := gd_some e
    obtain ⟨g84, e⟩ := gd_some e
    refine V_iald (pc := 32) dX9_seatFurther_32 (of_decide_eq_true g83) (ix_in g84) ?_
    refine V_aload_n (pc := 33) (i := 2) dX9_seatFurther_33 rfl rfl ?_
    obtain ⟨q85, g86, e⟩ := ob_some e
    refine V_getR (pc := 34) (ci := 2) (k := 1) (b := q85) dX9_seatFurther_34 fl_X9_44 rfl (of_decide_eq_true g80) g86 ?_
    refine V_iload_n (pc := 37) (i := 3) dX9_seatFurther_37 rfl rfl ?_
    obtain ⟨g87, e⟩ := gd_some e
    obtain ⟨g88, e⟩ := gd_some e
    refine V_iald (pc := 38) dX9_seatFurther_38 (of_decide_eq_true g87) (ix_in g88) ?_
    refine V_imul (pc := 39) dX9_seatFurther_39 ?_
    refine V_isub (pc := 40) dX9_seatFurther_40 ?_
    refine V_putI (pc := 41) (ci := 8) (k := 3) dX9_seatFurther_41 fp_X9_22 rfl k77 ?_
    obtain ⟨h89, g90, e⟩ := ob_some e
    refine V_hp (Option.some.inj g90) ?_
    have k91 : kd h89 v0 = 8 := kd_eq (h := (setI h75 v0 3 ((zI h75 v0 3) - ((zI h75 q81 (v1).toNatClampNeg) * (zI h75 q85 (zI h q2 (v1).toNatClampNeg).toNatClampNeg))))) (Option.some.inj g90) (kd_sI k77)
    have k92 : kd h89 q2 = 13 := kd_eq (h := (setI h75 v0 3 ((zI h75 v0 3) - ((zI h75 q81 (v1).toNatClampNeg) * (zI h75 q85 (zI h q2 (v1).toNatClampNeg).toNatClampNeg))))) (Option.some.inj g90) (kd_sI k78)
    have k93 : kd h89 q70 = 13 := kd_eq (h := (setI h75 v0 3 ((zI h75 v0 3) - ((zI h75 q81 (v1).toNatClampNeg) * (zI h75 q85 (zI h q2 (v1).toNatClampNeg).toNatClampNeg))))) (Option.some.inj g90) (kd_sI k79)
    have k94 : kd h89 v2 = 2 := kd_eq (h := (setI h75 v0 3 ((zI h75 v0 3) - ((zI h75 q81 (v1).toNatClampNeg) * (zI h75 q85 (zI h q2 (v1).toNatClampNeg).toNatClampNeg))))) (Option.some.inj g90) (kd_sI (of_decide_eq_true g80))
    have k95 : kd h89 q81 = 13 := kd_eq (h := (setI h75 v0 3 ((zI h75 v0 3) - ((zI h75 q81 (v1).toNatClampNeg) * (zI h75 q85 (zI h q2 (v1).toNatClampNeg).toNatClampNeg))))) (Option.some.inj g90) (kd_sI (of_decide_eq_true g83))
    have k96 : kd h89 q85 = 13 := kd_eq (h := (setI h75 v0 3 ((zI h75 v0 3) - ((zI h75 q81 (v1).toNatClampNeg) * (zI h75 q85 (zI h q2 (v1).toNatClampNeg).toNatClampNeg))))) (Option.some.inj g90) (kd_sI (of_decide_eq_true g87))
    refine V_aload_n (pc := 44) (i := 0) dX9_seatFurther_44 rfl rfl ?_
    refine V_dup (pc := 45) dX9_seatFurther_45 rfl ?_
    refine V_getI (pc := 46) (ci := 8) (k := 4) dX9_seatFurther_46 fl_X9_26 rfl k91 ?_
    refine V_aload_n (pc := 49) (i := 2) dX9_seatFurther_49 rfl rfl ?_
    obtain ⟨q97, g98, e⟩ := ob_some e
    refine V_getR (pc := 50) (ci := 2) (k := 6) (b := q97) dX9_seatFurther_50 fl_X9_78 rfl k94 g98 ?_
    refine V_iload_n (pc := 53) (i := 1) dX9_seatFurther_53 rfl rfl ?_
    obtain ⟨g99, e⟩ := gd_some e
    obtain ⟨g100, e⟩ := gd_some e
    refine V_iald (pc := 54) dX9_seatFurther_54 (of_decide_eq_true g99) (ix_in g100) ?_
    refine V_aload_n (pc := 55) (i := 2) dX9_seatFurther_55 rfl rfl ?_
    obtain ⟨q101, g102, e⟩ := ob_some e
    refine V_getR (pc := 56) (ci := 2) (k := 2) (b := q101) dX9_seatFurther_56 fl_X9_53 rfl k94 g102 ?_
    refine V_iload_n (pc := 59) (i := 3) dX9_seatFurther_59 rfl rfl ?_
    obtain ⟨g103, e⟩ := gd_some e
    obtain ⟨g104, e⟩ := gd_some e
    refine V_iald (pc := 60) dX9_seatFurther_60 (of_decide_eq_true g103) (ix_in g104) ?_
    refine V_imul (pc := 61) dX9_seatFurther_61 ?_
    refine V_isub (pc := 62) dX9_seatFurther_62 ?_
    refine V_putI (pc := 63) (ci := 8) (k := 4) dX9_seatFurther_63 fp_X9_26 rfl k91 ?_
    obtain ⟨h105, g106, e⟩ := ob_some e
    refine V_hp (Option.some.inj g106) ?_
    have k107 : kd h105 v0 = 8 := kd_eq (h := (setI h89 v0 4 ((zI h89 v0 4) - ((zI h89 q97 (v1).toNatClampNeg) * (zI h89 q101 (zI h q2 (v1).toNatClampNeg).toNatClampNeg))))) (Option.some.inj g106) (kd_sI k91)
    have k108 : kd h105 q2 = 13 := kd_eq (h := (setI h89 v0 4 ((zI h89 v0 4) - ((zI h89 q97 (v1).toNatClampNeg) * (zI h89 q101 (zI h q2 (v1).toNatClampNeg).toNatClampNeg))))) (Option.some.inj g106) (kd_sI k92)
    have k109 : kd h105 q70 = 13 := kd_eq (h := (setI h89 v0 4 ((zI h89 v0 4) - ((zI h89 q97 (v1).toNatClampNeg) * (zI h89 q101 (zI h q2 (v1).toNatClampNeg).toNatClampNeg))))) (Option.some.inj g106) (kd_sI k93)
    have k110 : kd h105 v2 = 2 := kd_eq (h := (setI h89 v0 4 ((zI h89 v0 4) - ((zI h89 q97 (v1).toNatClampNeg) * (zI h89 q101 (zI h q2 (v1).toNatClampNeg).toNatClampNeg))))) (Option.some.inj g106) (kd_sI k94)
    have k111 : kd h105 q81 = 13 := kd_eq (h := (setI h89 v0 4 ((zI h89 v0 4) - ((zI h89 q97 (v1).toNatClampNeg) * (zI h89 q101 (zI h q2 (v1).toNatClampNeg).toNatClampNeg))))) (Option.some.inj g106) (kd_sI k95)
    have k112 : kd h105 q85 = 13 := kd_eq (h := (setI h89 v0 4 ((zI h89 v0 4) - ((zI h89 q97 (v1).toNatClampNeg) * (zI h89 q101 (zI h q2 (v1).toNatClampNeg).toNatClampNeg))))) (Option.some.inj g106) (kd_sI k96)
    have k113 : kd h105 q97 = 13 := kd_eq (h := (setI h89 v0 4 ((zI h89 v0 4) - ((zI h89 q97 (v1).toNatClampNeg) * (zI h89 q101 (zI h q2 (v1).toNatClampNeg).toNatClampNeg))))) (Option.some.inj g106) (kd_sI (of_decide_eq_true g99))
    have k114 : kd h105 q101 = 13 := kd_eq (h := (setI h89 v0 4 ((zI h89 v0 4) - ((zI h89 q97 (v1).toNatClampNeg) * (zI h89 q101 (zI h q2 (v1).toNatClampNeg).toNatClampNeg))))) (Option.some.inj g106) (kd_sI (of_decide_eq_true g103))
    exact V_pick [0, 1, 2, 3] rfl (r_X9_seatFurther_b66 v0 v1 v2 (zI h q2 (v1).toNatClampNeg) h105 e hF)
def F_X9_seatFurther (v0 : Nat) (v1 : Int32) (v2 : Nat) (h : Hp) : Option (Int32 × Hp) := F_X9_seatFurther_b0 v0 v1 v2 h
theorem c_X9_seatFurther {l : Launch} (v0 : Nat) (v1 : Int32) (v2 : Nat) (h : Hp) {r : Int32} {hz : Hp} (e : F_X9_seatFurther v0 v1 v2 h = some (r, hz)) : Ct l yX9_seatFurther M_X9_seatFurther (some .boolean) 0 [.ref v0, .int v1, .ref v2] h 0 0 (some (.int r)) hz :=
  Ct_of rfl rfl (fun q => by cases q) (Nat.le_of_ble_eq_true rfl) (fun x _ hF => V_pick [0, 1, 2] rfl (r_X9_seatFurther_b0 v0 v1 v2 h e hF))
theorem dX9_isLevelNow_0 : decode cX9_isLevelNow 0 = .ok (.aload_n 0, 1) := by decide +kernel
theorem dX9_isLevelNow_1 : decode cX9_isLevelNow 1 = .ok (.getfield 22, 3) := by decide +kernel
theorem dX9_isLevelNow_4 : decode cX9_isLevelNow 4 = .ok (.aload_n 0, 1) := by decide +kernel
theorem dX9_isLevelNow_5 : decode cX9_isLevelNow 5 = .ok (.getfield 29, 3) := by decide +kernel
theorem dX9_isLevelNow_8 : decode cX9_isLevelNow 8 = .ok (.iadd, 1) := by decide +kernel
theorem dX9_isLevelNow_9 : decode cX9_isLevelNow 9 = .ok (.aload_n 0, 1) := by decide +kernel
theorem dX9_isLevelNow_10 : decode cX9_isLevelNow 10 = .ok (.getfield 41, 3) := by decide +kernel
theorem dX9_isLevelNow_13 : decode cX9_isLevelNow 13 = .ok (.ineg, 1) := by decide +kernel
theorem dX9_isLevelNow_14 : decode cX9_isLevelNow 14 = .ok (.if_icmp .lt 56, 3) := by decide +kernel
theorem dX9_isLevelNow_17 : decode cX9_isLevelNow 17 = .ok (.aload_n 0, 1) := by decide +kernel
theorem dX9_isLevelNow_18 : decode cX9_isLevelNow 18 = .ok (.getfield 22, 3) := by decide +kernel
theorem dX9_isLevelNow_21 : decode cX9_isLevelNow 21 = .ok (.aload_n 0, 1) := by decide +kernel
theorem dX9_isLevelNow_22 : decode cX9_isLevelNow 22 = .ok (.getfield 32, 3) := by decide +kernel
theorem dX9_isLevelNow_25 : decode cX9_isLevelNow 25 = .ok (.iadd, 1) := by decide +kernel
theorem dX9_isLevelNow_26 : decode cX9_isLevelNow 26 = .ok (.aload_n 0, 1) := by decide +kernel
theorem dX9_isLevelNow_27 : decode cX9_isLevelNow 27 = .ok (.getfield 41, 3) := by decide +kernel
theorem dX9_isLevelNow_30 : decode cX9_isLevelNow 30 = .ok (.if_icmp .gt 40, 3) := by decide +kernel
theorem dX9_isLevelNow_33 : decode cX9_isLevelNow 33 = .ok (.aload_n 0, 1) := by decide +kernel
theorem dX9_isLevelNow_34 : decode cX9_isLevelNow 34 = .ok (.getfield 26, 3) := by decide +kernel
theorem dX9_isLevelNow_37 : decode cX9_isLevelNow 37 = .ok (.aload_n 0, 1) := by decide +kernel
theorem dX9_isLevelNow_38 : decode cX9_isLevelNow 38 = .ok (.getfield 35, 3) := by decide +kernel
theorem dX9_isLevelNow_41 : decode cX9_isLevelNow 41 = .ok (.iadd, 1) := by decide +kernel
theorem dX9_isLevelNow_42 : decode cX9_isLevelNow 42 = .ok (.aload_n 0, 1) := by decide +kernel
theorem dX9_isLevelNow_43 : decode cX9_isLevelNow 43 = .ok (.getfield 41, 3) := by decide +kernel
theorem dX9_isLevelNow_46 : decode cX9_isLevelNow 46 = .ok (.ineg, 1) := by decide +kernel
theorem dX9_isLevelNow_47 : decode cX9_isLevelNow 47 = .ok (.if_icmp .lt 23, 3) := by decide +kernel
theorem dX9_isLevelNow_50 : decode cX9_isLevelNow 50 = .ok (.aload_n 0, 1) := by decide +kernel
theorem dX9_isLevelNow_51 : decode cX9_isLevelNow 51 = .ok (.getfield 26, 3) := by decide +kernel
theorem dX9_isLevelNow_54 : decode cX9_isLevelNow 54 = .ok (.aload_n 0, 1) := by decide +kernel
theorem dX9_isLevelNow_55 : decode cX9_isLevelNow 55 = .ok (.getfield 38, 3) := by decide +kernel
theorem dX9_isLevelNow_58 : decode cX9_isLevelNow 58 = .ok (.iadd, 1) := by decide +kernel
theorem dX9_isLevelNow_59 : decode cX9_isLevelNow 59 = .ok (.aload_n 0, 1) := by decide +kernel
theorem dX9_isLevelNow_60 : decode cX9_isLevelNow 60 = .ok (.getfield 41, 3) := by decide +kernel
theorem dX9_isLevelNow_63 : decode cX9_isLevelNow 63 = .ok (.if_icmp .gt 7, 3) := by decide +kernel
theorem dX9_isLevelNow_66 : decode cX9_isLevelNow 66 = .ok (.iconst 1, 1) := by decide +kernel
theorem dX9_isLevelNow_67 : decode cX9_isLevelNow 67 = .ok (.goto 4, 3) := by decide +kernel
theorem dX9_isLevelNow_70 : decode cX9_isLevelNow 70 = .ok (.iconst 0, 1) := by decide +kernel
theorem dX9_isLevelNow_71 : decode cX9_isLevelNow 71 = .ok (.ireturn, 1) := by decide +kernel
set_option maxRecDepth 100000 in
def F_X9_isLevelNow_b71 (t0 : Int32) (h : Hp) : Option Int32 :=
  gd (decide (t0 = 0 ∨ t0 = 1)) <| some t0
set_option maxHeartbeats 4000000 in
set_option maxRecDepth 100000 in
theorem r_X9_isLevelNow_b71 (t0 : Int32) (h : Hp) {x : Cx} {r : Int32} (e : F_X9_isLevelNow_b71 t0 h = some r) (hF : Fin9 M_X9_isLevelNow x (some .boolean) (some (.int r)) h) : V M_X9_isLevelNow x 0 71 [] [.int t0] h 0 0 := by
  unfold F_X9_isLevelNow_b71 at e
  obtain ⟨g2, e⟩ := gd_some e
  cases e
  exact V_zret (pc := 71) dX9_isLevelNow_71 (z01 (of_decide_eq_true g2)) hF
set_option maxRecDepth 100000 in
def F_X9_isLevelNow_b70  (h : Hp) : Option Int32 :=
  F_X9_isLevelNow_b71 (0 : Int32) h
set_option maxHeartbeats 4000000 in
set_option maxRecDepth 100000 in
theorem r_X9_isLevelNow_b70  (h : Hp) {x : Cx} {r : Int32} (e : F_X9_isLevelNow_b70  h = some r) (hF : Fin9 M_X9_isLevelNow x (some .boolean) (some (.int r)) h) : V M_X9_isLevelNow x 0 70 [] [] h 0 0 := by
  unfold F_X9_isLevelNow_b70 at e
  refine V_iconst (pc := 70) (v := (0 : Int32)) dX9_isLevelNow_70 (by decide) ?_
  exact V_pick [] rfl (r_X9_isLevelNow_b71 (0 : Int32) h e hF)
set_option maxRecDepth 100000 in
def F_X9_isLevelNow_b0 (v0 : Nat) (h : Hp) : Option Int32 :=
  gd (decide (kd h v0 = 8)) <| (if ((zI h v0 3) + (zI h v0 5)) < (0 - (zI h v0 9)) then F_X9_isLevelNow_b70 h else (if (zI h v0 9) < ((zI h v0 3) + (zI h v0 6)) then F_X9_isLevelNow_b70 h else (if ((zI h v0 4) + (zI h v0 7)) < (0 - (zI h v0 9)) then F_X9_isLevelNow_b70 h else (if (zI h v0 9) < ((zI h v0 4) + (zI h v0 8)) then F_X9_isLevelNow_b70 h else F_X9_isLevelNow_b71 (1 : Int32) h))))
set_option maxHeartbeats 4000000 in
set_option maxRecDepth 100000 in
theorem r_X9_isLevelNow_b0 (v0 : Nat) (h : Hp) {x : Cx} {r : Int32} (e : F_X9_isLevelNow_b0 v0 h = some r) (hF : Fin9 M_X9_isLevelNow x (some .boolean) (some (.int r)) h) : V M_X9_isLevelNow x 0 0 [(0, .ref v0)] [] h 0 0 := by
  unfold F_X9_isLevelNow_b0 at e
  refine V_aload_n (pc := 0) (i := 0) dX9_isLevelNow_0 rfl rfl ?_
  obtain ⟨g1, e⟩ := gd_some e
  refine V_getI (pc := 1) (ci := 8) (k := 3) dX9_isLevelNow_1 fl_X9_22 rfl (of_decide_eq_true g1) ?_
  refine V_aload_n (pc := 4) (i := 0) dX9_isLevelNow_4 rfl rfl ?_
  refine V_getI (pc := 5) (ci := 8) (k := 5) dX9_isLevelNow_5 fl_X9_29 rfl (of_decide_eq_true g1) ?_
  refine V_iadd (pc := 8) dX9_isLevelNow_8 ?_
  refine V_aload_n (pc := 9) (i := 0) dX9_isLevelNow_9 rfl rfl ?_
  refine V_getI (pc := 10) (ci := 8) (k := 9) dX9_isLevelNow_10 fl_X9_41 rfl (of_decide_eq_true g1) ?_
  refine V_ineg (pc := 13) dX9_isLevelNow_13 ?_
  refine V_icmp_lt (pc := 14) (tgt := 70) dX9_isLevelNow_14 (by decide) (fun c6 => ?_) (fun c6 => ?_)
  · rw [if_pos c6] at e
    exact V_pick [] rfl (r_X9_isLevelNow_b70 h e hF)
  · rw [if_neg c6] at e
    refine V_pick [0] rfl ?_
    refine V_aload_n (pc := 17) (i := 0) dX9_isLevelNow_17 rfl rfl ?_
    refine V_getI (pc := 18) (ci := 8) (k := 3) dX9_isLevelNow_18 fl_X9_22 rfl (of_decide_eq_true g1) ?_
    refine V_aload_n (pc := 21) (i := 0) dX9_isLevelNow_21 rfl rfl ?_
    refine V_getI (pc := 22) (ci := 8) (k := 6) dX9_isLevelNow_22 fl_X9_32 rfl (of_decide_eq_true g1) ?_
    refine V_iadd (pc := 25) dX9_isLevelNow_25 ?_
    refine V_aload_n (pc := 26) (i := 0) dX9_isLevelNow_26 rfl rfl ?_
    refine V_getI (pc := 27) (ci := 8) (k := 9) dX9_isLevelNow_27 fl_X9_41 rfl (of_decide_eq_true g1) ?_
    refine V_icmp_gt (pc := 30) (tgt := 70) dX9_isLevelNow_30 (by decide) (fun c5 => ?_) (fun c5 => ?_)
    · rw [if_pos c5] at e
      exact V_pick [] rfl (r_X9_isLevelNow_b70 h e hF)
    · rw [if_neg c5] at e
      refine V_pick [0] rfl ?_
      refine V_aload_n (pc := 33) (i := 0) dX9_isLevelNow_33 rfl rfl ?_
      refine V_getI (pc := 34) (ci := 8) (k := 4) dX9_isLevelNow_34 fl_X9_26 rfl (of_decide_eq_true g1) ?_
      refine V_aload_n (pc := 37) (i := 0) dX9_isLevelNow_37 rfl rfl ?_
      refine V_getI (pc := 38) (ci := 8) (k := 7) dX9_isLevelNow_38 fl_X9_35 rfl (of_decide_eq_true g1) ?_
      refine V_iadd (pc := 41) dX9_isLevelNow_41 ?_
      refine V_aload_n (pc := 42) (i := 0) dX9_isLevelNow_42 rfl rfl ?_
      refine V_getI (pc := 43) (ci := 8) (k := 9) dX9_isLevelNow_43 fl_X9_41 rfl (of_decide_eq_true g1) ?_
      refine V_ineg (pc := 46) dX9_isLevelNow_46 ?_
      refine V_icmp_lt (pc := 47) (tgt := 70) dX9_isLevelNow_47 (by decide) (fun c4 => ?_) (fun c4 => ?_)
      · rw [if_pos c4] at e
        exact V_pick [] rfl (r_X9_isLevelNow_b70 h e hF)
      · rw [if_neg c4] at e
        refine V_pick [0] rfl ?_
        refine V_aload_n (pc := 50) (i := 0) dX9_isLevelNow_50 rfl rfl ?_
        refine V_getI (pc := 51) (ci := 8) (k := 4) dX9_isLevelNow_51 fl_X9_26 rfl (of_decide_eq_true g1) ?_
        refine V_aload_n (pc := 54) (i := 0) dX9_isLevelNow_54 rfl rfl ?_
        refine V_getI (pc := 55) (ci := 8) (k := 8) dX9_isLevelNow_55 fl_X9_38 rfl (of_decide_eq_true g1) ?_
        refine V_iadd (pc := 58) dX9_isLevelNow_58 ?_
        refine V_aload_n (pc := 59) (i := 0) dX9_isLevelNow_59 rfl rfl ?_
        refine V_getI (pc := 60) (ci := 8) (k := 9) dX9_isLevelNow_60 fl_X9_41 rfl (of_decide_eq_true g1) ?_
        refine V_icmp_gt (pc := 63) (tgt := 70) dX9_isLevelNow_63 (by decide) (fun c3 => ?_) (fun c3 => ?_)
        · rw [if_pos c3] at e
          exact V_pick [] rfl (r_X9_isLevelNow_b70 h e hF)
        · rw [if_neg c3] at e
          refine V_pick [] rfl ?_
          refine V_iconst (pc := 66) (v := (1 : Int32)) dX9_isLevelNow_66 (by decide) ?_
          refine V_goto (pc := 67) (tgt := 71) dX9_isLevelNow_67 (by decide) ?_
          exact V_pick [] rfl (r_X9_isLevelNow_b71 (1 : Int32) h e hF)
def F_X9_isLevelNow (v0 : Nat) (h : Hp) : Option Int32 := F_X9_isLevelNow_b0 v0 h
theorem c_X9_isLevelNow {l : Launch} (v0 : Nat) (h : Hp) {r : Int32} (e : F_X9_isLevelNow v0 h = some r) : Ct l yX9_isLevelNow M_X9_isLevelNow (some .boolean) 0 [.ref v0] h 0 0 (some (.int r)) h :=
  Ct_of rfl rfl (fun q => by cases q) (Nat.le_of_ble_eq_true rfl) (fun x _ hF => V_pick [0] rfl (r_X9_isLevelNow_b0 v0 h e hF))
theorem dX9_isAt_0 : decode cX9_isAt 0 = .ok (.aload_n 0, 1) := by decide +kernel
theorem dX9_isAt_1 : decode cX9_isAt 1 = .ok (.getfield 22, 3) := by decide +kernel
theorem dX9_isAt_4 : decode cX9_isAt 4 = .ok (.iload_n 1, 1) := by decide +kernel
theorem dX9_isAt_5 : decode cX9_isAt 5 = .ok (.if_icmp .ne 15, 3) := by decide +kernel
theorem dX9_isAt_8 : decode cX9_isAt 8 = .ok (.aload_n 0, 1) := by decide +kernel
theorem dX9_isAt_9 : decode cX9_isAt 9 = .ok (.getfield 26, 3) := by decide +kernel
theorem dX9_isAt_12 : decode cX9_isAt 12 = .ok (.iload_n 2, 1) := by decide +kernel
theorem dX9_isAt_13 : decode cX9_isAt 13 = .ok (.if_icmp .ne 7, 3) := by decide +kernel
theorem dX9_isAt_16 : decode cX9_isAt 16 = .ok (.iconst 1, 1) := by decide +kernel
theorem dX9_isAt_17 : decode cX9_isAt 17 = .ok (.goto 4, 3) := by decide +kernel
theorem dX9_isAt_20 : decode cX9_isAt 20 = .ok (.iconst 0, 1) := by decide +kernel
theorem dX9_isAt_21 : decode cX9_isAt 21 = .ok (.ireturn, 1) := by decide +kernel
set_option maxRecDepth 100000 in
def F_X9_isAt_b21 (t0 : Int32) (h : Hp) : Option Int32 :=
  gd (decide (t0 = 0 ∨ t0 = 1)) <| some t0
set_option maxHeartbeats 4000000 in
set_option maxRecDepth 100000 in
theorem r_X9_isAt_b21 (t0 : Int32) (h : Hp) {x : Cx} {r : Int32} (e : F_X9_isAt_b21 t0 h = some r) (hF : Fin9 M_X9_isAt x (some .boolean) (some (.int r)) h) : V M_X9_isAt x 0 21 [] [.int t0] h 0 0 := by
  unfold F_X9_isAt_b21 at e
  obtain ⟨g2, e⟩ := gd_some e
  cases e
  exact V_zret (pc := 21) dX9_isAt_21 (z01 (of_decide_eq_true g2)) hF
set_option maxRecDepth 100000 in
def F_X9_isAt_b20  (h : Hp) : Option Int32 :=
  F_X9_isAt_b21 (0 : Int32) h
set_option maxHeartbeats 4000000 in
set_option maxRecDepth 100000 in
theorem r_X9_isAt_b20  (h : Hp) {x : Cx} {r : Int32} (e : F_X9_isAt_b20  h = some r) (hF : Fin9 M_X9_isAt x (some .boolean) (some (.int r)) h) : V M_X9_isAt x 0 20 [] [] h 0 0 := by
  unfold F_X9_isAt_b20 at e
  refine V_iconst (pc := 20) (v := (0 : Int32)) dX9_isAt_20 (by decide) ?_
  exact V_pick [] rfl (r_X9_isAt_b21 (0 : Int32) h e hF)
set_option maxRecDepth 100000 in
def F_X9_isAt_b0 (v0 : Nat) (v1 : Int32) (v2 : Int32) (h : Hp) : Option Int32 :=
  gd (decide (kd h v0 = 8)) <| (if (zI h v0 3) = v1 then (if (zI h v0 4) = v2 then F_X9_isAt_b21 (1 : Int32) h else F_X9_isAt_b20 h) else F_X9_isAt_b20 h)
set_option maxHeartbeats 4000000 in
set_option maxRecDepth 100000 in
theorem r_X9_isAt_b0 (v0 : Nat) (v1 : Int32) (v2 : Int32) (h : Hp) {x : Cx} {r : Int32} (e : F_X9_isAt_b0 v0 v1 v2 h = some r) (hF : Fin9 M_X9_isAt x (some .boolean) (some (.int r)) h) : V M_X9_isAt x 0 0 [(0, .ref v0), (1, .int v1), (2, .int v2)] [] h 0 0 := by
  unfold F_X9_isAt_b0 at e
  refine V_aload_n (pc := 0) (i := 0) dX9_isAt_0 rfl rfl ?_
  obtain ⟨g1, e⟩ := gd_some e
  refine V_getI (pc := 1) (ci := 8) (k := 3) dX9_isAt_1 fl_X9_22 rfl (of_decide_eq_true g1) ?_
  refine V_iload_n (pc := 4) (i := 1) dX9_isAt_4 rfl rfl ?_
  refine V_icmp_ne (pc := 5) (tgt := 20) dX9_isAt_5 (by decide) (fun c4 => ?_) (fun c4 => ?_)
  · rw [if_neg c4] at e
    exact V_pick [] rfl (r_X9_isAt_b20 h e hF)
  · rw [if_pos c4] at e
    refine V_pick [0, 2] rfl ?_
    refine V_aload_n (pc := 8) (i := 0) dX9_isAt_8 rfl rfl ?_
    refine V_getI (pc := 9) (ci := 8) (k := 4) dX9_isAt_9 fl_X9_26 rfl (of_decide_eq_true g1) ?_
    refine V_iload_n (pc := 12) (i := 2) dX9_isAt_12 rfl rfl ?_
    refine V_icmp_ne (pc := 13) (tgt := 20) dX9_isAt_13 (by decide) (fun c3 => ?_) (fun c3 => ?_)
    · rw [if_neg c3] at e
      exact V_pick [] rfl (r_X9_isAt_b20 h e hF)
    · rw [if_pos c3] at e
      refine V_pick [] rfl ?_
      refine V_iconst (pc := 16) (v := (1 : Int32)) dX9_isAt_16 (by decide) ?_
      refine V_goto (pc := 17) (tgt := 21) dX9_isAt_17 (by decide) ?_
      exact V_pick [] rfl (r_X9_isAt_b21 (1 : Int32) h e hF)
def F_X9_isAt (v0 : Nat) (v1 : Int32) (v2 : Int32) (h : Hp) : Option Int32 := F_X9_isAt_b0 v0 v1 v2 h
theorem c_X9_isAt {l : Launch} (v0 : Nat) (v1 : Int32) (v2 : Int32) (h : Hp) {r : Int32} (e : F_X9_isAt v0 v1 v2 h = some r) : Ct l yX9_isAt M_X9_isAt (some .boolean) 0 [.ref v0, .int v1, .int v2] h 0 0 (some (.int r)) h :=
  Ct_of rfl rfl (fun q => by cases q) (Nat.le_of_ble_eq_true rfl) (fun x _ hF => V_pick [0, 1, 2] rfl (r_X9_isAt_b0 v0 v1 v2 h e hF))
theorem dX10_copyFrom_0 : decode cX10_copyFrom 0 = .ok (.aload_n 0, 1) := by decide +kernel
theorem dX10_copyFrom_1 : decode cX10_copyFrom 1 = .ok (.aload_n 1, 1) := by decide +kernel
theorem dX10_copyFrom_2 : decode cX10_copyFrom 2 = .ok (.getfield 22, 3) := by decide +kernel
theorem dX10_copyFrom_5 : decode cX10_copyFrom 5 = .ok (.putfield 22, 3) := by decide +kernel
theorem dX10_copyFrom_8 : decode cX10_copyFrom 8 = .ok (.aload_n 0, 1) := by decide +kernel
theorem dX10_copyFrom_9 : decode cX10_copyFrom 9 = .ok (.aload_n 1, 1) := by decide +kernel
theorem dX10_copyFrom_10 : decode cX10_copyFrom 10 = .ok (.getfield 18, 3) := by decide +kernel
theorem dX10_copyFrom_13 : decode cX10_copyFrom 13 = .ok (.putfield 18, 3) := by decide +kernel
theorem dX10_copyFrom_16 : decode cX10_copyFrom 16 = .ok (.aload_n 1, 1) := by decide +kernel
theorem dX10_copyFrom_17 : decode cX10_copyFrom 17 = .ok (.getfield 9, 3) := by decide +kernel
theorem dX10_copyFrom_20 : decode cX10_copyFrom 20 = .ok (.iconst 0, 1) := by decide +kernel
theorem dX10_copyFrom_21 : decode cX10_copyFrom 21 = .ok (.aload_n 0, 1) := by decide +kernel
theorem dX10_copyFrom_22 : decode cX10_copyFrom 22 = .ok (.getfield 9, 3) := by decide +kernel
theorem dX10_copyFrom_25 : decode cX10_copyFrom 25 = .ok (.iconst 0, 1) := by decide +kernel
theorem dX10_copyFrom_26 : decode cX10_copyFrom 26 = .ok (.sipush 400, 3) := by decide +kernel
theorem dX10_copyFrom_29 : decode cX10_copyFrom 29 = .ok (.invokestatic 25, 3) := by decide +kernel
theorem dX10_copyFrom_32 : decode cX10_copyFrom 32 = .ok (.return_, 1) := by decide +kernel
set_option maxRecDepth 100000 in
def F_X10_copyFrom_b0 (v0 : Nat) (v1 : Nat) (h : Hp) : Option (Unit × Hp) :=
  gd (decide (kd h v1 = 9)) <| gd (decide (kd h v0 = 9)) <| ob (zR (setI (setI h v0 0 (zI h v1 0)) v0 3 (zI (setI h v0 0 (zI h v1 0)) v1 3)) v1 1) fun q3 => ob (zR (setI (setI h v0 0 (zI h v1 0)) v0 3 (zI (setI h v0 0 (zI h v1 0)) v1 3)) v0 1) fun q5 => gd (decide (kd (setI (setI h v0 0 (zI h v1 0)) v0 3 (zI (setI h v0 0 (zI h v1 0)) v1 3)) q3 = 13)) <| gd (decide (kd (setI (setI h v0 0 (zI h v1 0)) v0 3 (zI (setI h v0 0 (zI h v1 0)) v1 3)) q5 = 13)) <| gd (cpk (0 : Int32) (0 : Int32) (400 : Int32) (zl (setI (setI h v0 0 (zI h v1 0)) v0 3 (zI (setI h v0 0 (zI h v1 0)) v1 3)) q3) (zl (setI (setI h v0 0 (zI h v1 0)) v0 3 (zI (setI h v0 0 (zI h v1 0)) v1 3)) q5)) <| ob (some (cpA (setI (setI h v0 0 (zI h v1 0)) v0 3 (zI (setI h v0 0 (zI h v1 0)) v1 3)) q3 (0 : Int32) q5 (0 : Int32) (400 : Int32))) fun h10 => some ((), h10)
set_option maxHeartbeats 4000000 in
set_option maxRecDepth 100000 in
theorem r_X10_copyFrom_b0 (v0 : Nat) (v1 : Nat) (h : Hp) {x : Cx} {r : Unit} {hz : Hp} (e : F_X10_copyFrom_b0 v0 v1 h = some (r, hz)) (hF : Fin9 M_X10_copyFrom x none none hz) : V M_X10_copyFrom x 1 0 [(0, .ref v0), (1, .ref v1)] [] h 0 0 := by
  unfold F_X10_copyFrom_b0 at e
  refine V_aload_n (pc := 0) (i := 0) dX10_copyFrom_0 rfl rfl ?_
  refine V_aload_n (pc := 1) (i := 1) dX10_copyFrom_1 rfl rfl ?_
  obtain ⟨g1, e⟩ := gd_some e
  refine V_getI (pc := 2) (ci := 9) (k := 0) dX10_copyFrom_2 fl_X10_22 rfl (of_decide_eq_true g1) ?_
  obtain ⟨g2, e⟩ := gd_some e
  refine V_putI (pc := 5) (ci := 9) (k := 0) dX10_copyFrom_5 fp_X10_22 rfl (of_decide_eq_true g2) ?_
  refine V_aload_n (pc := 8) (i := 0) dX10_copyFrom_8 rfl rfl ?_
  refine V_aload_n (pc := 9) (i := 1) dX10_copyFrom_9 rfl rfl ?_
  refine V_getI (pc := 10) (ci := 9) (k := 3) dX10_copyFrom_10 fl_X10_18 rfl (kd_sI (of_decide_eq_true g1)) ?_
  refine V_putI (pc := 13) (ci := 9) (k := 3) dX10_copyFrom_13 fp_X10_18 rfl (kd_sI (of_decide_eq_true g2)) ?_
  refine V_aload_n (pc := 16) (i := 1) dX10_copyFrom_16 rfl rfl ?_
  obtain ⟨q3, g4, e⟩ := ob_some e
  refine V_getR (pc := 17) (ci := 9) (k := 1) (b := q3) dX10_copyFrom_17 fl_X10_9 rfl (kd_sI (kd_sI (of_decide_eq_true g1))) g4 ?_
  refine V_iconst (pc := 20) (v := (0 : Int32)) dX10_copyFrom_20 (by decide) ?_
  refine V_aload_n (pc := 21) (i := 0) dX10_copyFrom_21 rfl rfl ?_
  obtain ⟨q5, g6, e⟩ := ob_some e
  refine V_getR (pc := 22) (ci := 9) (k := 1) (b := q5) dX10_copyFrom_22 fl_X10_9 rfl (kd_sI (kd_sI (of_decide_eq_true g2))) g6 ?_
  refine V_iconst (pc := 25) (v := (0 : Int32)) dX10_copyFrom_25 (by decide) ?_
  refine V_sipush (pc := 26) (v := (400 : Int32)) dX10_copyFrom_26 (by decide) ?_
  obtain ⟨g7, e⟩ := gd_some e
  obtain ⟨g8, e⟩ := gd_some e
  obtain ⟨g9, e⟩ := gd_some e
  refine V_copy (pc := 29) dX10_copyFrom_29 wm_X10_25 (of_decide_eq_true g7) (of_decide_eq_true g8) g9 (by decide) (Nat.le_of_ble_eq_true rfl) ?_
  obtain ⟨h10, g11, e⟩ := ob_some e
  refine V_hp (Option.some.inj g11) ?_
  have k12 : kd h10 v1 = 9 := kd_eq (h := (cpA (setI (setI h v0 0 (zI h v1 0)) v0 3 (zI (setI h v0 0 (zI h v1 0)) v1 3)) q3 (0 : Int32) q5 (0 : Int32) (400 : Int32))) (Option.some.inj g11) (kd_sC (kd_sI (kd_sI (of_decide_eq_true g1))))
  have k13 : kd h10 v0 = 9 := kd_eq (h := (cpA (setI (setI h v0 0 (zI h v1 0)) v0 3 (zI (setI h v0 0 (zI h v1 0)) v1 3)) q3 (0 : Int32) q5 (0 : Int32) (400 : Int32))) (Option.some.inj g11) (kd_sC (kd_sI (kd_sI (of_decide_eq_true g2))))
  have k14 : kd h10 q3 = 13 := kd_eq (h := (cpA (setI (setI h v0 0 (zI h v1 0)) v0 3 (zI (setI h v0 0 (zI h v1 0)) v1 3)) q3 (0 : Int32) q5 (0 : Int32) (400 : Int32))) (Option.some.inj g11) (kd_sC (of_decide_eq_true g7))
  have k15 : kd h10 q5 = 13 := kd_eq (h := (cpA (setI (setI h v0 0 (zI h v1 0)) v0 3 (zI (setI h v0 0 (zI h v1 0)) v1 3)) q3 (0 : Int32) q5 (0 : Int32) (400 : Int32))) (Option.some.inj g11) (kd_sC (of_decide_eq_true g8))
  cases e
  exact V_vret (pc := 32) dX10_copyFrom_32 hF
def F_X10_copyFrom (v0 : Nat) (v1 : Nat) (h : Hp) : Option (Unit × Hp) := F_X10_copyFrom_b0 v0 v1 h
theorem c_X10_copyFrom {l : Launch} (v0 : Nat) (v1 : Nat) (h : Hp) {r : Unit} {hz : Hp} (e : F_X10_copyFrom v0 v1 h = some (r, hz)) : Ct l yX10_copyFrom M_X10_copyFrom none 1 [.ref v0, .ref v1] h 0 0 none hz :=
  Ct_of rfl rfl (fun q => by cases q) (Nat.le_of_ble_eq_true rfl) (fun x _ hF => V_pick [0, 1] rfl (r_X10_copyFrom_b0 v0 v1 h e hF))
theorem dX10_put_0 : decode cX10_put 0 = .ok (.aload_n 0, 1) := by decide +kernel
theorem dX10_put_1 : decode cX10_put 1 = .ok (.getfield 18, 3) := by decide +kernel
theorem dX10_put_4 : decode cX10_put 4 = .ok (.aload_n 0, 1) := by decide +kernel
theorem dX10_put_5 : decode cX10_put 5 = .ok (.getfield 9, 3) := by decide +kernel
theorem dX10_put_8 : decode cX10_put 8 = .ok (.arraylength, 1) := by decide +kernel
theorem dX10_put_9 : decode cX10_put 9 = .ok (.if_icmp .ge 23, 3) := by decide +kernel
theorem dX10_put_12 : decode cX10_put 12 = .ok (.aload_n 0, 1) := by decide +kernel
theorem dX10_put_13 : decode cX10_put 13 = .ok (.getfield 9, 3) := by decide +kernel
theorem dX10_put_16 : decode cX10_put 16 = .ok (.aload_n 0, 1) := by decide +kernel
theorem dX10_put_17 : decode cX10_put 17 = .ok (.getfield 18, 3) := by decide +kernel
theorem dX10_put_20 : decode cX10_put 20 = .ok (.iload_n 1, 1) := by decide +kernel
theorem dX10_put_21 : decode cX10_put 21 = .ok (.iastore, 1) := by decide +kernel
theorem dX10_put_22 : decode cX10_put 22 = .ok (.aload_n 0, 1) := by decide +kernel
theorem dX10_put_23 : decode cX10_put 23 = .ok (.dup, 1) := by decide +kernel
theorem dX10_put_24 : decode cX10_put 24 = .ok (.getfield 18, 3) := by decide +kernel
theorem dX10_put_27 : decode cX10_put 27 = .ok (.iconst 1, 1) := by decide +kernel
theorem dX10_put_28 : decode cX10_put 28 = .ok (.iadd, 1) := by decide +kernel
theorem dX10_put_29 : decode cX10_put 29 = .ok (.putfield 18, 3) := by decide +kernel
theorem dX10_put_32 : decode cX10_put 32 = .ok (.iconst 1, 1) := by decide +kernel
theorem dX10_put_33 : decode cX10_put 33 = .ok (.ireturn, 1) := by decide +kernel
set_option maxRecDepth 100000 in
def F_X10_put_b32  (h : Hp) : Option (Int32 × Hp) :=
  some ((1 : Int32), h)
set_option maxHeartbeats 4000000 in
set_option maxRecDepth 100000 in
theorem r_X10_put_b32  (h : Hp) {x : Cx} {r : Int32} {hz : Hp} (e : F_X10_put_b32  h = some (r, hz)) (hF : Fin9 M_X10_put x (some .boolean) (some (.int r)) hz) : V M_X10_put x 0 32 [] [] h 0 0 := by
  unfold F_X10_put_b32 at e
  refine V_iconst (pc := 32) (v := (1 : Int32)) dX10_put_32 (by decide) ?_
  cases e
  exact V_zret (pc := 33) dX10_put_33 rfl hF
set_option maxRecDepth 100000 in
def F_X10_put_b0 (v0 : Nat) (v1 : Int32) (h : Hp) : Option (Int32 × Hp) :=
  gd (decide (kd h v0 = 9)) <| ob (zR h v0 1) fun q2 => gd (decide (kd h q2 = 13)) <| (if (Int32.ofNat (zl h q2)) ≤ (zI h v0 3) then F_X10_put_b32 h else ob (zR h v0 1) fun q5 => gd (decide (kd h q5 = 13)) <| gd (ix (zI h v0 3) (zl h q5)) <| F_X10_put_b32 (setI (setI h q5 (zI h v0 3).toNatClampNeg v1) v0 3 ((zI (setI h q5 (zI h v0 3).toNatClampNeg v1) v0 3) + (1 : Int32))))
set_option maxHeartbeats 4000000 in
set_option maxRecDepth 100000 in
theorem r_X10_put_b0 (v0 : Nat) (v1 : Int32) (h : Hp) {x : Cx} {r : Int32} {hz : Hp} (e : F_X10_put_b0 v0 v1 h = some (r, hz)) (hF : Fin9 M_X10_put x (some .boolean) (some (.int r)) hz) : V M_X10_put x 0 0 [(0, .ref v0), (1, .int v1)] [] h 0 0 := by
  unfold F_X10_put_b0 at e
  refine V_aload_n (pc := 0) (i := 0) dX10_put_0 rfl rfl ?_
  obtain ⟨g1, e⟩ := gd_some e
  refine V_getI (pc := 1) (ci := 9) (k := 3) dX10_put_1 fl_X10_18 rfl (of_decide_eq_true g1) ?_
  refine V_aload_n (pc := 4) (i := 0) dX10_put_4 rfl rfl ?_
  obtain ⟨q2, g3, e⟩ := ob_some e
  refine V_getR (pc := 5) (ci := 9) (k := 1) (b := q2) dX10_put_5 fl_X10_9 rfl (of_decide_eq_true g1) g3 ?_
  obtain ⟨g4, e⟩ := gd_some e
  refine V_alen (pc := 8) (k := 13) dX10_put_8 (of_decide_eq_true g4) (by decide) ?_
  refine V_icmp_ge (pc := 9) (tgt := 32) dX10_put_9 (by decide) (fun c9 => ?_) (fun c9 => ?_)
  · rw [if_pos c9] at e
    exact V_pick [] rfl (r_X10_put_b32 h e hF)
  · rw [if_neg c9] at e
    refine V_pick [0, 1] rfl ?_
    refine V_aload_n (pc := 12) (i := 0) dX10_put_12 rfl rfl ?_
    obtain ⟨q5, g6, e⟩ := ob_some e
    refine V_getR (pc := 13) (ci := 9) (k := 1) (b := q5) dX10_put_13 fl_X10_9 rfl (of_decide_eq_true g1) g6 ?_
    refine V_aload_n (pc := 16) (i := 0) dX10_put_16 rfl rfl ?_
    refine V_getI (pc := 17) (ci := 9) (k := 3) dX10_put_17 fl_X10_18 rfl (of_decide_eq_true g1) ?_
    refine V_iload_n (pc := 20) (i := 1) dX10_put_20 rfl rfl ?_
    obtain ⟨g7, e⟩ := gd_some e
    obtain ⟨g8, e⟩ := gd_some e
    refine V_iast (pc := 21) dX10_put_21 (of_decide_eq_true g7) (ix_in g8) ?_
    refine V_aload_n (pc := 22) (i := 0) dX10_put_22 rfl rfl ?_
    refine V_dup (pc := 23) dX10_put_23 rfl ?_
    refine V_getI (pc := 24) (ci := 9) (k := 3) dX10_put_24 fl_X10_18 rfl (kd_sI (of_decide_eq_true g1)) ?_
    refine V_iconst (pc := 27) (v := (1 : Int32)) dX10_put_27 (by decide) ?_
    refine V_iadd (pc := 28) dX10_put_28 ?_
    refine V_putI (pc := 29) (ci := 9) (k := 3) dX10_put_29 fp_X10_18 rfl (kd_sI (of_decide_eq_true g1)) ?_
    exact V_pick [] rfl (r_X10_put_b32 (setI (setI h q5 (zI h v0 3).toNatClampNeg v1) v0 3 ((zI (setI h q5 (zI h v0 3).toNatClampNeg v1) v0 3) + (1 : Int32))) e hF)
def F_X10_put (v0 : Nat) (v1 : Int32) (h : Hp) : Option (Int32 × Hp) := F_X10_put_b0 v0 v1 h
theorem c_X10_put {l : Launch} (v0 : Nat) (v1 : Int32) (h : Hp) {r : Int32} {hz : Hp} (e : F_X10_put v0 v1 h = some (r, hz)) : Ct l yX10_put M_X10_put (some .boolean) 0 [.ref v0, .int v1] h 0 0 (some (.int r)) hz :=
  Ct_of rfl rfl (fun q => by cases q) (Nat.le_of_ble_eq_true rfl) (fun x _ hF => V_pick [0, 1] rfl (r_X10_put_b0 v0 v1 h e hF))
theorem dX10_partNamed_0 : decode cX10_partNamed 0 = .ok (.aload_n 0, 1) := by decide +kernel
theorem dX10_partNamed_1 : decode cX10_partNamed 1 = .ok (.ldc 104, 2) := by decide +kernel
theorem dX10_partNamed_3 : decode cX10_partNamed 3 = .ok (.invokevirtual 52, 3) := by decide +kernel
theorem dX10_partNamed_6 : decode cX10_partNamed 6 = .ok (.ifCond .eq 6, 3) := by decide +kernel
theorem dX10_partNamed_9 : decode cX10_partNamed 9 = .ok (.bipush (-10), 2) := by decide +kernel
theorem dX10_partNamed_11 : decode cX10_partNamed 11 = .ok (.ireturn, 1) := by decide +kernel
theorem dX10_partNamed_12 : decode cX10_partNamed 12 = .ok (.aload_n 0, 1) := by decide +kernel
theorem dX10_partNamed_13 : decode cX10_partNamed 13 = .ok (.ldc 106, 2) := by decide +kernel
theorem dX10_partNamed_15 : decode cX10_partNamed 15 = .ok (.invokevirtual 52, 3) := by decide +kernel
theorem dX10_partNamed_18 : decode cX10_partNamed 18 = .ok (.ifCond .eq 6, 3) := by decide +kernel
theorem dX10_partNamed_21 : decode cX10_partNamed 21 = .ok (.bipush (-11), 2) := by decide +kernel
theorem dX10_partNamed_23 : decode cX10_partNamed 23 = .ok (.ireturn, 1) := by decide +kernel
theorem dX10_partNamed_24 : decode cX10_partNamed 24 = .ok (.aload_n 0, 1) := by decide +kernel
theorem dX10_partNamed_25 : decode cX10_partNamed 25 = .ok (.ldc 108, 2) := by decide +kernel
theorem dX10_partNamed_27 : decode cX10_partNamed 27 = .ok (.invokevirtual 52, 3) := by decide +kernel
theorem dX10_partNamed_30 : decode cX10_partNamed 30 = .ok (.ifCond .eq 6, 3) := by decide +kernel
theorem dX10_partNamed_33 : decode cX10_partNamed 33 = .ok (.bipush (-12), 2) := by decide +kernel
theorem dX10_partNamed_35 : decode cX10_partNamed 35 = .ok (.ireturn, 1) := by decide +kernel
theorem dX10_partNamed_36 : decode cX10_partNamed 36 = .ok (.aload_n 0, 1) := by decide +kernel
theorem dX10_partNamed_37 : decode cX10_partNamed 37 = .ok (.ldc 110, 2) := by decide +kernel
theorem dX10_partNamed_39 : decode cX10_partNamed 39 = .ok (.invokevirtual 52, 3) := by decide +kernel
theorem dX10_partNamed_42 : decode cX10_partNamed 42 = .ok (.ifCond .eq 6, 3) := by decide +kernel
theorem dX10_partNamed_45 : decode cX10_partNamed 45 = .ok (.bipush (-13), 2) := by decide +kernel
theorem dX10_partNamed_47 : decode cX10_partNamed 47 = .ok (.ireturn, 1) := by decide +kernel
theorem dX10_partNamed_48 : decode cX10_partNamed 48 = .ok (.aload_n 0, 1) := by decide +kernel
theorem dX10_partNamed_49 : decode cX10_partNamed 49 = .ok (.ldc 112, 2) := by decide +kernel
theorem dX10_partNamed_51 : decode cX10_partNamed 51 = .ok (.invokevirtual 52, 3) := by decide +kernel
theorem dX10_partNamed_54 : decode cX10_partNamed 54 = .ok (.ifCond .eq 6, 3) := by decide +kernel
theorem dX10_partNamed_57 : decode cX10_partNamed 57 = .ok (.bipush (-14), 2) := by decide +kernel
theorem dX10_partNamed_59 : decode cX10_partNamed 59 = .ok (.ireturn, 1) := by decide +kernel
theorem dX10_partNamed_60 : decode cX10_partNamed 60 = .ok (.aload_n 0, 1) := by decide +kernel
theorem dX10_partNamed_61 : decode cX10_partNamed 61 = .ok (.ldc 114, 2) := by decide +kernel
theorem dX10_partNamed_63 : decode cX10_partNamed 63 = .ok (.invokevirtual 52, 3) := by decide +kernel
theorem dX10_partNamed_66 : decode cX10_partNamed 66 = .ok (.ifCond .eq 8, 3) := by decide +kernel
theorem dX10_partNamed_69 : decode cX10_partNamed 69 = .ok (.bipush (-15), 2) := by decide +kernel
theorem dX10_partNamed_71 : decode cX10_partNamed 71 = .ok (.goto 4, 3) := by decide +kernel
theorem dX10_partNamed_74 : decode cX10_partNamed 74 = .ok (.iconst (-1), 1) := by decide +kernel
theorem dX10_partNamed_75 : decode cX10_partNamed 75 = .ok (.ireturn, 1) := by decide +kernel
set_option maxRecDepth 100000 in
def F_X10_partNamed_b75 (t0 : Int32) (h : Hp) : Option Int32 :=
  some t0
set_option maxHeartbeats 4000000 in
set_option maxRecDepth 100000 in
theorem r_X10_partNamed_b75 (t0 : Int32) (h : Hp) {x : Cx} {r : Int32} (e : F_X10_partNamed_b75 t0 h = some r) (hF : Fin9 M_X10_partNamed x (some .int) (some (.int r)) h) : V M_X10_partNamed x 5 75 [] [.int t0] h 0 0 := by
  unfold F_X10_partNamed_b75 at e
  cases e
  exact V_iret (pc := 75) dX10_partNamed_75 hF
set_option maxRecDepth 100000 in
def F_X10_partNamed_b0 (v0 : Nat) (h : Hp) : Option Int32 :=
  ob (F_X6_isWord v0 (18 : UInt32) h) fun r2 => gd (decide (kd h v0 = 6)) <| (if r2 = 0 then ob (F_X6_isWord v0 (19 : UInt32) h) fun r5 => (if r5 = 0 then ob (F_X6_isWord v0 (20 : UInt32) h) fun r7 => (if r7 = 0 then ob (F_X6_isWord v0 (21 : UInt32) h) fun r9 => (if r9 = 0 then ob (F_X6_isWord v0 (22 : UInt32) h) fun r11 => (if r11 = 0 then ob (F_X6_isWord v0 (23 : UInt32) h) fun r13 => (if r13 = 0 then F_X10_partNamed_b75 (-1 : Int32) h else F_X10_partNamed_b75 (-15 : Int32) h) else some (-14 : Int32)) else some (-13 : Int32)) else some (-12 : Int32)) else some (-11 : Int32)) else some (-10 : Int32))
set_option maxHeartbeats 4000000 in
set_option maxRecDepth 100000 in
theorem r_X10_partNamed_b0 (v0 : Nat) (h : Hp) {x : Cx} {r : Int32} (e : F_X10_partNamed_b0 v0 h = some r) (hF : Fin9 M_X10_partNamed x (some .int) (some (.int r)) h) : V M_X10_partNamed x 5 0 [(0, .ref v0)] [] h 0 0 := by
  unfold F_X10_partNamed_b0 at e
  refine V_aload_n (pc := 0) (i := 0) dX10_partNamed_0 rfl rfl ?_
  refine V_ldcS (pc := 1) (j := 18) (u := (18 : UInt32)) dX10_partNamed_1 rfl (by decide) ?_
  obtain ⟨r2, g1, e⟩ := ob_some e
  obtain ⟨g3, e⟩ := gd_some e
  refine V_callV (pc := 3) (bc := 0) (bs := 0) (mc := 0) (ms := 0) (st := []) (As := [.float (18 : UInt32)]) (a := v0) (h' := h) (r := some (.int r2)) dX10_partNamed_3 ml_X10_52 (ci := 6) rfl (of_decide_eq_true g3) rfl rfl (Nat.le_of_ble_eq_true rfl) (d' := 4) (by decide) (c_X6_isWord (l := x.2.1) v0 (18 : UInt32) h g1) ?_
  refine V_if_eq (pc := 6) (tgt := 12) dX10_partNamed_6 (by decide) (fun c19 => ?_) (fun c19 => ?_)
  · rw [if_pos c19] at e
    refine V_pick [0] rfl ?_
    refine V_aload_n (pc := 12) (i := 0) dX10_partNamed_12 rfl rfl ?_
    refine V_ldcS (pc := 13) (j := 19) (u := (19 : UInt32)) dX10_partNamed_13 rfl (by decide) ?_
    obtain ⟨r5, g4, e⟩ := ob_some e
    refine V_callV (pc := 15) (bc := 0) (bs := 0) (mc := 0) (ms := 0) (st := []) (As := [.float (19 : UInt32)]) (a := v0) (h' := h) (r := some (.int r5)) dX10_partNamed_15 ml_X10_52 (ci := 6) rfl (of_decide_eq_true g3) rfl rfl (Nat.le_of_ble_eq_true rfl) (d' := 4) (by decide) (c_X6_isWord (l := x.2.1) v0 (19 : UInt32) h g4) ?_
    refine V_if_eq (pc := 18) (tgt := 24) dX10_partNamed_18 (by decide) (fun c18 => ?_) (fun c18 => ?_)
    · rw [if_pos c18] at e
      refine V_pick [0] rfl ?_
      refine V_aload_n (pc := 24) (i := 0) dX10_partNamed_24 rfl rfl ?_
      refine V_ldcS (pc := 25) (j := 20) (u := (20 : UInt32)) dX10_partNamed_25 rfl (by decide) ?_
      obtain ⟨r7, g6, e⟩ := ob_some e
      refine V_callV (pc := 27) (bc := 0) (bs := 0) (mc := 0) (ms := 0) (st := []) (As := [.float (20 : UInt32)]) (a := v0) (h' := h) (r := some (.int r7)) dX10_partNamed_27 ml_X10_52 (ci := 6) rfl (of_decide_eq_true g3) rfl rfl (Nat.le_of_ble_eq_true rfl) (d' := 4) (by decide) (c_X6_isWord (l := x.2.1) v0 (20 : UInt32) h g6) ?_
      refine V_if_eq (pc := 30) (tgt := 36) dX10_partNamed_30 (by decide) (fun c17 => ?_) (fun c17 => ?_)
      · rw [if_pos c17] at e
        refine V_pick [0] rfl ?_
        refine V_aload_n (pc := 36) (i := 0) dX10_partNamed_36 rfl rfl ?_
        refine V_ldcS (pc := 37) (j := 21) (u := (21 : UInt32)) dX10_partNamed_37 rfl (by decide) ?_
        obtain ⟨r9, g8, e⟩ := ob_some e
        refine V_callV (pc := 39) (bc := 0) (bs := 0) (mc := 0) (ms := 0) (st := []) (As := [.float (21 : UInt32)]) (a := v0) (h' := h) (r := some (.int r9)) dX10_partNamed_39 ml_X10_52 (ci := 6) rfl (of_decide_eq_true g3) rfl rfl (Nat.le_of_ble_eq_true rfl) (d' := 4) (by decide) (c_X6_isWord (l := x.2.1) v0 (21 : UInt32) h g8) ?_
        refine V_if_eq (pc := 42) (tgt := 48) dX10_partNamed_42 (by decide) (fun c16 => ?_) (fun c16 => ?_)
        · rw [if_pos c16] at e
          refine V_pick [0] rfl ?_
          refine V_aload_n (pc := 48) (i := 0) dX10_partNamed_48 rfl rfl ?_
          refine V_ldcS (pc := 49) (j := 22) (u := (22 : UInt32)) dX10_partNamed_49 rfl (by decide) ?_
          obtain ⟨r11, g10, e⟩ := ob_some e
          refine V_callV (pc := 51) (bc := 0) (bs := 0) (mc := 0) (ms := 0) (st := []) (As := [.float (22 : UInt32)]) (a := v0) (h' := h) (r := some (.int r11)) dX10_partNamed_51 ml_X10_52 (ci := 6) rfl (of_decide_eq_true g3) rfl rfl (Nat.le_of_ble_eq_true rfl) (d' := 4) (by decide) (c_X6_isWord (l := x.2.1) v0 (22 : UInt32) h g10) ?_
          refine V_if_eq (pc := 54) (tgt := 60) dX10_partNamed_54 (by decide) (fun c15 => ?_) (fun c15 => ?_)
          · rw [if_pos c15] at e
            refine V_pick [0] rfl ?_
            refine V_aload_n (pc := 60) (i := 0) dX10_partNamed_60 rfl rfl ?_
            refine V_ldcS (pc := 61) (j := 23) (u := (23 : UInt32)) dX10_partNamed_61 rfl (by decide) ?_
            obtain ⟨r13, g12, e⟩ := ob_some e
            refine V_callV (pc := 63) (bc := 0) (bs := 0) (mc := 0) (ms := 0) (st := []) (As := [.float (23 : UInt32)]) (a := v0) (h' := h) (r := some (.int r13)) dX10_partNamed_63 ml_X10_52 (ci := 6) rfl (of_decide_eq_true g3) rfl rfl (Nat.le_of_ble_eq_true rfl) (d' := 4) (by decide) (c_X6_isWord (l := x.2.1) v0 (23 : UInt32) h g12) ?_
            refine V_if_eq (pc := 66) (tgt := 74) dX10_partNamed_66 (by decide) (fun c14 => ?_) (fun c14 => ?_)
            · rw [if_pos c14] at e
              refine V_pick [] rfl ?_
              refine V_iconst (pc := 74) (v := (-1 : Int32)) dX10_partNamed_74 (by decide) ?_
              exact V_pick [] rfl (r_X10_partNamed_b75 (-1 : Int32) h e hF)
            · rw [if_neg c14] at e
              refine V_pick [] rfl ?_
              refine V_bipush (pc := 69) (v := (-15 : Int32)) dX10_partNamed_69 (by decide) ?_
              refine V_goto (pc := 71) (tgt := 75) dX10_partNamed_71 (by decide) ?_
              exact V_pick [] rfl (r_X10_partNamed_b75 (-15 : Int32) h e hF)
          · rw [if_neg c15] at e
            refine V_pick [] rfl ?_
            refine V_bipush (pc := 57) (v := (-14 : Int32)) dX10_partNamed_57 (by decide) ?_
            cases e
            exact V_iret (pc := 59) dX10_partNamed_59 hF
        · rw [if_neg c16] at e
          refine V_pick [] rfl ?_
          refine V_bipush (pc := 45) (v := (-13 : Int32)) dX10_partNamed_45 (by decide) ?_
          cases e
          exact V_iret (pc := 47) dX10_partNamed_47 hF
      · rw [if_neg c17] at e
        refine V_pick [] rfl ?_
        refine V_bipush (pc := 33) (v := (-12 : Int32)) dX10_partNamed_33 (by decide) ?_
        cases e
        exact V_iret (pc := 35) dX10_partNamed_35 hF
    · rw [if_neg c18] at e
      refine V_pick [] rfl ?_
      refine V_bipush (pc := 21) (v := (-11 : Int32)) dX10_partNamed_21 (by decide) ?_
      cases e
      exact V_iret (pc := 23) dX10_partNamed_23 hF
  · rw [if_neg c19] at e
    refine V_pick [] rfl ?_
    refine V_bipush (pc := 9) (v := (-10 : Int32)) dX10_partNamed_9 (by decide) ?_
    cases e
    exact V_iret (pc := 11) dX10_partNamed_11 hF
def F_X10_partNamed (v0 : Nat) (h : Hp) : Option Int32 := F_X10_partNamed_b0 v0 h
theorem c_X10_partNamed {l : Launch} (v0 : Nat) (h : Hp) {r : Int32} (e : F_X10_partNamed v0 h = some r) : Ct l yX10_partNamed M_X10_partNamed (some .int) 5 [.ref v0] h 0 0 (some (.int r)) h :=
  Ct_of rfl rfl (fun q => by cases q) (Nat.le_of_ble_eq_true rfl) (fun x _ hF => V_pick [0] rfl (r_X10_partNamed_b0 v0 h e hF))
theorem dX10_join_0 : decode cX10_join 0 = .ok (.iload_n 0, 1) := by decide +kernel
theorem dX10_join_1 : decode cX10_join 1 = .ok (.tableswitch 61 (-4) (-1) #[57, 46, 35, 31], 31) := by decide +kernel
theorem dX10_join_32 : decode cX10_join 32 = .ok (.iload_n 1, 1) := by decide +kernel
theorem dX10_join_33 : decode cX10_join 33 = .ok (.iload_n 2, 1) := by decide +kernel
theorem dX10_join_34 : decode cX10_join 34 = .ok (.iadd, 1) := by decide +kernel
theorem dX10_join_35 : decode cX10_join 35 = .ok (.ireturn, 1) := by decide +kernel
theorem dX10_join_36 : decode cX10_join 36 = .ok (.iload_n 1, 1) := by decide +kernel
theorem dX10_join_37 : decode cX10_join 37 = .ok (.iload_n 2, 1) := by decide +kernel
theorem dX10_join_38 : decode cX10_join 38 = .ok (.if_icmp .ge 7, 3) := by decide +kernel
theorem dX10_join_41 : decode cX10_join 41 = .ok (.iconst 1, 1) := by decide +kernel
theorem dX10_join_42 : decode cX10_join 42 = .ok (.goto 4, 3) := by decide +kernel
theorem dX10_join_45 : decode cX10_join 45 = .ok (.iconst 0, 1) := by decide +kernel
theorem dX10_join_46 : decode cX10_join 46 = .ok (.ireturn, 1) := by decide +kernel
theorem dX10_join_47 : decode cX10_join 47 = .ok (.iload_n 1, 1) := by decide +kernel
theorem dX10_join_48 : decode cX10_join 48 = .ok (.iload_n 2, 1) := by decide +kernel
theorem dX10_join_49 : decode cX10_join 49 = .ok (.if_icmp .le 7, 3) := by decide +kernel
theorem dX10_join_52 : decode cX10_join 52 = .ok (.iconst 1, 1) := by decide +kernel
theorem dX10_join_53 : decode cX10_join 53 = .ok (.goto 4, 3) := by decide +kernel
theorem dX10_join_56 : decode cX10_join 56 = .ok (.iconst 0, 1) := by decide +kernel
theorem dX10_join_57 : decode cX10_join 57 = .ok (.ireturn, 1) := by decide +kernel
theorem dX10_join_58 : decode cX10_join 58 = .ok (.iload_n 1, 1) := by decide +kernel
theorem dX10_join_59 : decode cX10_join 59 = .ok (.iload_n 2, 1) := by decide +kernel
theorem dX10_join_60 : decode cX10_join 60 = .ok (.iand, 1) := by decide +kernel
theorem dX10_join_61 : decode cX10_join 61 = .ok (.ireturn, 1) := by decide +kernel
theorem dX10_join_62 : decode cX10_join 62 = .ok (.iload_n 1, 1) := by decide +kernel
theorem dX10_join_63 : decode cX10_join 63 = .ok (.iload_n 2, 1) := by decide +kernel
theorem dX10_join_64 : decode cX10_join 64 = .ok (.ior, 1) := by decide +kernel
theorem dX10_join_65 : decode cX10_join 65 = .ok (.ireturn, 1) := by decide +kernel
set_option maxRecDepth 100000 in
def F_X10_join_b57 (t0 : Int32) (h : Hp) : Option Int32 :=
  some t0
set_option maxHeartbeats 4000000 in
set_option maxRecDepth 100000 in
theorem r_X10_join_b57 (t0 : Int32) (h : Hp) {x : Cx} {r : Int32} (e : F_X10_join_b57 t0 h = some r) (hF : Fin9 M_X10_join x (some .int) (some (.int r)) h) : V M_X10_join x 0 57 [] [.int t0] h 0 0 := by
  unfold F_X10_join_b57 at e
  cases e
  exact V_iret (pc := 57) dX10_join_57 hF
set_option maxRecDepth 100000 in
def F_X10_join_b46 (t0 : Int32) (h : Hp) : Option Int32 :=
  some t0
set_option maxHeartbeats 4000000 in
set_option maxRecDepth 100000 in
theorem r_X10_join_b46 (t0 : Int32) (h : Hp) {x : Cx} {r : Int32} (e : F_X10_join_b46 t0 h = some r) (hF : Fin9 M_X10_join x (some .int) (some (.int r)) h) : V M_X10_join x 0 46 [] [.int t0] h 0 0 := by
  unfold F_X10_join_b46 at e
  cases e
  exact V_iret (pc := 46) dX10_join_46 hF
set_option maxRecDepth 100000 in
def F_X10_join_b0 (v0 : Int32) (v1 : Int32) (v2 : Int32) (h : Hp) : Option Int32 :=
  (if v0 = (-4 : Int32) then some (v1 &&& v2) else if v0 = (-3 : Int32) then (if v1 ≤ v2 then F_X10_join_b57 (0 : Int32) h else F_X10_join_b57 (1 : Int32) h) else if v0 = (-2 : Int32) then (if v2 ≤ v1 then F_X10_join_b46 (0 : Int32) h else F_X10_join_b46 (1 : Int32) h) else if v0 = (-1 : Int32) then some (v1 + v2) else some (v1 ||| v2))
set_option maxHeartbeats 4000000 in
set_option maxRecDepth 100000 in
theorem r_X10_join_b0 (v0 : Int32) (v1 : Int32) (v2 : Int32) (h : Hp) {x : Cx} {r : Int32} (e : F_X10_join_b0 v0 v1 v2 h = some r) (hF : Fin9 M_X10_join x (some .int) (some (.int r)) h) : V M_X10_join x 0 0 [(0, .int v0), (1, .int v1), (2, .int v2)] [] h 0 0 := by
  unfold F_X10_join_b0 at e
  refine V_iload_n (pc := 0) (i := 0) dX10_join_0 rfl rfl ?_
  by_cases c1 : v0 = (-4 : Int32)
  · rw [if_pos c1] at e
    refine V_tableIn (pc := 1) (tgt := 58) dX10_join_1 (by rw [c1]; decide) (by rw [c1]; decide) (by rw [c1]; rfl) (by decide) ?_
    refine V_pick [1, 2] rfl ?_
    refine V_iload_n (pc := 58) (i := 1) dX10_join_58 rfl rfl ?_
    refine V_iload_n (pc := 59) (i := 2) dX10_join_59 rfl rfl ?_
    refine V_iand (pc := 60) dX10_join_60 ?_
    cases e
    exact V_iret (pc := 61) dX10_join_61 hF
  · rw [if_neg c1] at e
    by_cases c3 : v0 = (-3 : Int32)
    · rw [if_pos c3] at e
      refine V_tableIn (pc := 1) (tgt := 47) dX10_join_1 (by rw [c3]; decide) (by rw [c3]; decide) (by rw [c3]; rfl) (by decide) ?_
      refine V_pick [1, 2] rfl ?_
      refine V_iload_n (pc := 47) (i := 1) dX10_join_47 rfl rfl ?_
      refine V_iload_n (pc := 48) (i := 2) dX10_join_48 rfl rfl ?_
      refine V_icmp_le (pc := 49) (tgt := 56) dX10_join_49 (by decide) (fun c2 => ?_) (fun c2 => ?_)
      · rw [if_pos c2] at e
        refine V_pick [] rfl ?_
        refine V_iconst (pc := 56) (v := (0 : Int32)) dX10_join_56 (by decide) ?_
        exact V_pick [] rfl (r_X10_join_b57 (0 : Int32) h e hF)
      · rw [if_neg c2] at e
        refine V_pick [] rfl ?_
        refine V_iconst (pc := 52) (v := (1 : Int32)) dX10_join_52 (by decide) ?_
        refine V_goto (pc := 53) (tgt := 57) dX10_join_53 (by decide) ?_
        exact V_pick [] rfl (r_X10_join_b57 (1 : Int32) h e hF)
    · rw [if_neg c3] at e
      by_cases c5 : v0 = (-2 : Int32)
      · rw [if_pos c5] at e
        refine V_tableIn (pc := 1) (tgt := 36) dX10_join_1 (by rw [c5]; decide) (by rw [c5]; decide) (by rw [c5]; rfl) (by decide) ?_
        refine V_pick [1, 2] rfl ?_
        refine V_iload_n (pc := 36) (i := 1) dX10_join_36 rfl rfl ?_
        refine V_iload_n (pc := 37) (i := 2) dX10_join_37 rfl rfl ?_
        refine V_icmp_ge (pc := 38) (tgt := 45) dX10_join_38 (by decide) (fun c4 => ?_) (fun c4 => ?_)
        · rw [if_pos c4] at e
          refine V_pick [] rfl ?_
          refine V_iconst (pc := 45) (v := (0 : Int32)) dX10_join_45 (by decide) ?_
          exact V_pick [] rfl (r_X10_join_b46 (0 : Int32) h e hF)
        · rw [if_neg c4] at e
          refine V_pick [] rfl ?_
          refine V_iconst (pc := 41) (v := (1 : Int32)) dX10_join_41 (by decide) ?_
          refine V_goto (pc := 42) (tgt := 46) dX10_join_42 (by decide) ?_
          exact V_pick [] rfl (r_X10_join_b46 (1 : Int32) h e hF)
      · rw [if_neg c5] at e
        by_cases c6 : v0 = (-1 : Int32)
        · rw [if_pos c6] at e
          refine V_tableIn (pc := 1) (tgt := 32) dX10_join_1 (by rw [c6]; decide) (by rw [c6]; decide) (by rw [c6]; rfl) (by decide) ?_
          refine V_pick [1, 2] rfl ?_
          refine V_iload_n (pc := 32) (i := 1) dX10_join_32 rfl rfl ?_
          refine V_iload_n (pc := 33) (i := 2) dX10_join_33 rfl rfl ?_
          refine V_iadd (pc := 34) dX10_join_34 ?_
          cases e
          exact V_iret (pc := 35) dX10_join_35 hF
        · rw [if_neg c6] at e
          refine V_tableOut (pc := 1) (tgt := 62) dX10_join_1 (by have q0 := tI_ne c1 (z := -4) (by decide); have q1 := tI_ne c3 (z := -3) (by decide); have q2 := tI_ne c5 (z := -2) (by decide); have q3 := tI_ne c6 (z := -1) (by decide); omega) (by decide) ?_
          refine V_pick [1, 2] rfl ?_
          refine V_iload_n (pc := 62) (i := 1) dX10_join_62 rfl rfl ?_
          refine V_iload_n (pc := 63) (i := 2) dX10_join_63 rfl rfl ?_
          refine V_ior (pc := 64) dX10_join_64 ?_
          cases e
          exact V_iret (pc := 65) dX10_join_65 hF
def F_X10_join (v0 : Int32) (v1 : Int32) (v2 : Int32) (h : Hp) : Option Int32 := F_X10_join_b0 v0 v1 v2 h
theorem c_X10_join {l : Launch} (v0 : Int32) (v1 : Int32) (v2 : Int32) (h : Hp) {r : Int32} (e : F_X10_join v0 v1 v2 h = some r) : Ct l yX10_join M_X10_join (some .int) 0 [.int v0, .int v1, .int v2] h 0 0 (some (.int r)) h :=
  Ct_of rfl rfl (fun q => by cases q) (Nat.le_of_ble_eq_true rfl) (fun x _ hF => V_pick [0, 1, 2] rfl (r_X10_join_b0 v0 v1 v2 h e hF))
theorem dX10_valueOf_0 : decode cX10_valueOf 0 = .ok (.iload_n 0, 1) := by decide +kernel
theorem dX10_valueOf_1 : decode cX10_valueOf 1 = .ok (.ifCond .lt 5, 3) := by decide +kernel
theorem dX10_valueOf_4 : decode cX10_valueOf 4 = .ok (.iload_n 0, 1) := by decide +kernel
theorem dX10_valueOf_5 : decode cX10_valueOf 5 = .ok (.ireturn, 1) := by decide +kernel
theorem dX10_valueOf_6 : decode cX10_valueOf 6 = .ok (.aload_n 3, 1) := by decide +kernel
theorem dX10_valueOf_7 : decode cX10_valueOf 7 = .ok (.iload_n 2, 1) := by decide +kernel
theorem dX10_valueOf_8 : decode cX10_valueOf 8 = .ok (.iaload, 1) := by decide +kernel
theorem dX10_valueOf_9 : decode cX10_valueOf 9 = .ok (.istore 4, 2) := by decide +kernel
theorem dX10_valueOf_11 : decode cX10_valueOf 11 = .ok (.iload_n 0, 1) := by decide +kernel
theorem dX10_valueOf_12 : decode cX10_valueOf 12 = .ok (.tableswitch 128 (-15) (-8) #[125, 117, 109, 102, 91, 80, 65, 48], 48) := by decide +kernel
theorem dX10_valueOf_60 : decode cX10_valueOf 60 = .ok (.aload_n 1, 1) := by decide +kernel
theorem dX10_valueOf_61 : decode cX10_valueOf 61 = .ok (.iload 4, 2) := by decide +kernel
theorem dX10_valueOf_63 : decode cX10_valueOf 63 = .ok (.aload_n 3, 1) := by decide +kernel
theorem dX10_valueOf_64 : decode cX10_valueOf 64 = .ok (.invokevirtual 124, 3) := by decide +kernel
theorem dX10_valueOf_67 : decode cX10_valueOf 67 = .ok (.iconst 1, 1) := by decide +kernel
theorem dX10_valueOf_68 : decode cX10_valueOf 68 = .ok (.if_icmp .ne 7, 3) := by decide +kernel
theorem dX10_valueOf_71 : decode cX10_valueOf 71 = .ok (.iconst 1, 1) := by decide +kernel
theorem dX10_valueOf_72 : decode cX10_valueOf 72 = .ok (.goto 4, 3) := by decide +kernel
theorem dX10_valueOf_75 : decode cX10_valueOf 75 = .ok (.iconst 0, 1) := by decide +kernel
theorem dX10_valueOf_76 : decode cX10_valueOf 76 = .ok (.ireturn, 1) := by decide +kernel
theorem dX10_valueOf_77 : decode cX10_valueOf 77 = .ok (.aload_n 1, 1) := by decide +kernel
theorem dX10_valueOf_78 : decode cX10_valueOf 78 = .ok (.getfield 130, 3) := by decide +kernel
theorem dX10_valueOf_81 : decode cX10_valueOf 81 = .ok (.iload 4, 2) := by decide +kernel
theorem dX10_valueOf_83 : decode cX10_valueOf 83 = .ok (.if_icmp .ne 7, 3) := by decide +kernel
theorem dX10_valueOf_86 : decode cX10_valueOf 86 = .ok (.iconst 1, 1) := by decide +kernel
theorem dX10_valueOf_87 : decode cX10_valueOf 87 = .ok (.goto 4, 3) := by decide +kernel
theorem dX10_valueOf_90 : decode cX10_valueOf 90 = .ok (.iconst 0, 1) := by decide +kernel
theorem dX10_valueOf_91 : decode cX10_valueOf 91 = .ok (.ireturn, 1) := by decide +kernel
theorem dX10_valueOf_92 : decode cX10_valueOf 92 = .ok (.aload_n 1, 1) := by decide +kernel
theorem dX10_valueOf_93 : decode cX10_valueOf 93 = .ok (.getfield 133, 3) := by decide +kernel
theorem dX10_valueOf_96 : decode cX10_valueOf 96 = .ok (.iload 4, 2) := by decide +kernel
theorem dX10_valueOf_98 : decode cX10_valueOf 98 = .ok (.iaload, 1) := by decide +kernel
theorem dX10_valueOf_99 : decode cX10_valueOf 99 = .ok (.bipush 9, 2) := by decide +kernel
theorem dX10_valueOf_101 : decode cX10_valueOf 101 = .ok (.iadd, 1) := by decide +kernel
theorem dX10_valueOf_102 : decode cX10_valueOf 102 = .ok (.ireturn, 1) := by decide +kernel
theorem dX10_valueOf_103 : decode cX10_valueOf 103 = .ok (.aload_n 1, 1) := by decide +kernel
theorem dX10_valueOf_104 : decode cX10_valueOf 104 = .ok (.getfield 135, 3) := by decide +kernel
theorem dX10_valueOf_107 : decode cX10_valueOf 107 = .ok (.iload 4, 2) := by decide +kernel
theorem dX10_valueOf_109 : decode cX10_valueOf 109 = .ok (.iaload, 1) := by decide +kernel
theorem dX10_valueOf_110 : decode cX10_valueOf 110 = .ok (.bipush 9, 2) := by decide +kernel
theorem dX10_valueOf_112 : decode cX10_valueOf 112 = .ok (.iadd, 1) := by decide +kernel
theorem dX10_valueOf_113 : decode cX10_valueOf 113 = .ok (.ireturn, 1) := by decide +kernel
theorem dX10_valueOf_114 : decode cX10_valueOf 114 = .ok (.aload_n 1, 1) := by decide +kernel
theorem dX10_valueOf_115 : decode cX10_valueOf 115 = .ok (.iload 4, 2) := by decide +kernel
theorem dX10_valueOf_117 : decode cX10_valueOf 117 = .ok (.invokevirtual 137, 3) := by decide +kernel
theorem dX10_valueOf_120 : decode cX10_valueOf 120 = .ok (.ireturn, 1) := by decide +kernel
theorem dX10_valueOf_121 : decode cX10_valueOf 121 = .ok (.aload_n 1, 1) := by decide +kernel
theorem dX10_valueOf_122 : decode cX10_valueOf 122 = .ok (.iload 4, 2) := by decide +kernel
theorem dX10_valueOf_124 : decode cX10_valueOf 124 = .ok (.aload_n 3, 1) := by decide +kernel
theorem dX10_valueOf_125 : decode cX10_valueOf 125 = .ok (.invokevirtual 124, 3) := by decide +kernel
theorem dX10_valueOf_128 : decode cX10_valueOf 128 = .ok (.ireturn, 1) := by decide +kernel
theorem dX10_valueOf_129 : decode cX10_valueOf 129 = .ok (.aload_n 1, 1) := by decide +kernel
theorem dX10_valueOf_130 : decode cX10_valueOf 130 = .ok (.getfield 141, 3) := by decide +kernel
theorem dX10_valueOf_133 : decode cX10_valueOf 133 = .ok (.iload 4, 2) := by decide +kernel
theorem dX10_valueOf_135 : decode cX10_valueOf 135 = .ok (.iaload, 1) := by decide +kernel
theorem dX10_valueOf_136 : decode cX10_valueOf 136 = .ok (.ireturn, 1) := by decide +kernel
theorem dX10_valueOf_137 : decode cX10_valueOf 137 = .ok (.iload 4, 2) := by decide +kernel
theorem dX10_valueOf_139 : decode cX10_valueOf 139 = .ok (.ireturn, 1) := by decide +kernel
theorem dX10_valueOf_140 : decode cX10_valueOf 140 = .ok (.bipush (-16), 2) := by decide +kernel
theorem dX10_valueOf_142 : decode cX10_valueOf 142 = .ok (.iload_n 0, 1) := by decide +kernel
theorem dX10_valueOf_143 : decode cX10_valueOf 143 = .ok (.isub, 1) := by decide +kernel
theorem dX10_valueOf_144 : decode cX10_valueOf 144 = .ok (.istore 5, 2) := by decide +kernel
theorem dX10_valueOf_146 : decode cX10_valueOf 146 = .ok (.aload_n 1, 1) := by decide +kernel
theorem dX10_valueOf_147 : decode cX10_valueOf 147 = .ok (.iload 5, 2) := by decide +kernel
theorem dX10_valueOf_149 : decode cX10_valueOf 149 = .ok (.invokevirtual 143, 3) := by decide +kernel
theorem dX10_valueOf_152 : decode cX10_valueOf 152 = .ok (.ifCond .eq 16, 3) := by decide +kernel
theorem dX10_valueOf_155 : decode cX10_valueOf 155 = .ok (.aload_n 3, 1) := by decide +kernel
theorem dX10_valueOf_156 : decode cX10_valueOf 156 = .ok (.iload 5, 2) := by decide +kernel
theorem dX10_valueOf_158 : decode cX10_valueOf 158 = .ok (.iaload, 1) := by decide +kernel
theorem dX10_valueOf_159 : decode cX10_valueOf 159 = .ok (.iload 4, 2) := by decide +kernel
theorem dX10_valueOf_161 : decode cX10_valueOf 161 = .ok (.if_icmp .ne 7, 3) := by decide +kernel
theorem dX10_valueOf_164 : decode cX10_valueOf 164 = .ok (.iconst 1, 1) := by decide +kernel
theorem dX10_valueOf_165 : decode cX10_valueOf 165 = .ok (.goto 4, 3) := by decide +kernel
theorem dX10_valueOf_168 : decode cX10_valueOf 168 = .ok (.iconst 0, 1) := by decide +kernel
theorem dX10_valueOf_169 : decode cX10_valueOf 169 = .ok (.ireturn, 1) := by decide +kernel
set_option maxRecDepth 100000 in
def F_X10_valueOf_b91 (t0 : Int32) (h : Hp) : Option Int32 :=
  some t0
set_option maxHeartbeats 4000000 in
set_option maxRecDepth 100000 in
theorem r_X10_valueOf_b91 (t0 : Int32) (h : Hp) {x : Cx} {r : Int32} (e : F_X10_valueOf_b91 t0 h = some r) (hF : Fin9 M_X10_valueOf x (some .int) (some (.int r)) h) : V M_X10_valueOf x 2 91 [] [.int t0] h 0 0 := by
  unfold F_X10_valueOf_b91 at e
  cases e
  exact V_iret (pc := 91) dX10_valueOf_91 hF
set_option maxRecDepth 100000 in
def F_X10_valueOf_b76 (t0 : Int32) (h : Hp) : Option Int32 :=
  some t0
set_option maxHeartbeats 4000000 in
set_option maxRecDepth 100000 in
theorem r_X10_valueOf_b76 (t0 : Int32) (h : Hp) {x : Cx} {r : Int32} (e : F_X10_valueOf_b76 t0 h = some r) (hF : Fin9 M_X10_valueOf x (some .int) (some (.int r)) h) : V M_X10_valueOf x 2 76 [] [.int t0] h 0 0 := by
  unfold F_X10_valueOf_b76 at e
  cases e
  exact V_iret (pc := 76) dX10_valueOf_76 hF
set_option maxRecDepth 100000 in
def F_X10_valueOf_b169 (t0 : Int32) (h : Hp) : Option Int32 :=
  some t0
set_option maxHeartbeats 4000000 in
set_option maxRecDepth 100000 in
theorem r_X10_valueOf_b169 (t0 : Int32) (h : Hp) {x : Cx} {r : Int32} (e : F_X10_valueOf_b169 t0 h = some r) (hF : Fin9 M_X10_valueOf x (some .int) (some (.int r)) h) : V M_X10_valueOf x 2 169 [] [.int t0] h 0 0 := by
  unfold F_X10_valueOf_b169 at e
  cases e
  exact V_iret (pc := 169) dX10_valueOf_169 hF
set_option maxRecDepth 100000 in
def F_X10_valueOf_b168  (h : Hp) : Option Int32 :=
  F_X10_valueOf_b169 (0 : Int32) h
set_option maxHeartbeats 4000000 in
set_option maxRecDepth 100000 in
theorem r_X10_valueOf_b168  (h : Hp) {x : Cx} {r : Int32} (e : F_X10_valueOf_b168  h = some r) (hF : Fin9 M_X10_valueOf x (some .int) (some (.int r)) h) : V M_X10_valueOf x 2 168 [] [] h 0 0 := by
  unfold F_X10_valueOf_b168 at e
  refine V_iconst (pc := 168) (v := (0 : Int32)) dX10_valueOf_168 (by decide) ?_
  exact V_pick [] rfl (r_X10_valueOf_b169 (0 : Int32) h e hF)
set_option maxRecDepth 100000 in
def F_X10_valueOf_b0 (v0 : Int32) (v1 : Nat) (v2 : Int32) (v3 : Nat) (h : Hp) : Option Int32 :=
  (if v0 < 0 then gd (decide (kd h v3 = 13)) <| gd (ix v2 (zl h v3)) <| (if v0 = (-15 : Int32) then some (zI h v3 (v2).toNatClampNeg) else if v0 = (-14 : Int32) then gd (decide (kd h v1 = 2)) <| ob (zR h v1 4) fun q5 => gd (decide (kd h q5 = 13)) <| gd (ix (zI h v3 (v2).toNatClampNeg) (zl h q5)) <| some (zI h q5 (zI h v3 (v2).toNatClampNeg).toNatClampNeg) else if v0 = (-13 : Int32) then ob (F_X2_headsIn v1 (zI h v3 (v2).toNatClampNeg) v3 h) fun r11 => gd (decide (kd h v1 = 2)) <| some r11 else if v0 = (-12 : Int32) then ob (F_X2_farOf v1 (zI h v3 (v2).toNatClampNeg) h) fun r15 => gd (decide (kd h v1 = 2)) <| some r15 else if v0 = (-11 : Int32) then gd (decide (kd h v1 = 2)) <| ob (zR h v1 2) fun q19 => gd (decide (kd h q19 = 13)) <| gd (ix (zI h v3 (v2).toNatClampNeg) (zl h q19)) <| some ((zI h q19 (zI h v3 (v2).toNatClampNeg).toNatClampNeg) + (9 : Int32)) else if v0 = (-10 : Int32) then gd (decide (kd h v1 = 2)) <| ob (zR h v1 1) fun q25 => gd (decide (kd h q25 = 13)) <| gd (ix (zI h v3 (v2).toNatClampNeg) (zl h q25)) <| some ((zI h q25 (zI h v3 (v2).toNatClampNeg).toNatClampNeg) + (9 : Int32)) else if v0 = (-9 : Int32) then gd (decide (kd h v1 = 2)) <| (if (zI h v1 11) = (zI h v3 (v2).toNatClampNeg) then F_X10_valueOf_b91 (1 : Int32) h else F_X10_valueOf_b91 (0 : Int32) h) else if v0 = (-8 : Int32) then ob (F_X2_headsIn v1 (zI h v3 (v2).toNatClampNeg) v3 h) fun r34 => gd (decide (kd h v1 = 2)) <| (if r34 = (1 : Int32) then F_X10_valueOf_b76 (1 : Int32) h else F_X10_valueOf_b76 (0 : Int32) h) else ob (F_X2_hasGuest v1 ((-16 : Int32) - v0) h) fun r39 => gd (decide (kd h v1 = 2)) <| (if r39 = 0 then F_X10_valueOf_b168 h else gd (ix ((-16 : Int32) - v0) (zl h v3)) <| (if (zI h v3 ((-16 : Int32) - v0).toNatClampNeg) = (zI h v3 (v2).toNatClampNeg) then F_X10_valueOf_b169 (1 : Int32) h else F_X10_valueOf_b168 h))) else some v0)
set_option maxHeartbeats 4000000 in
set_option maxRecDepth 100000 in
theorem r_X10_valueOf_b0 (v0 : Int32) (v1 : Nat) (v2 : Int32) (v3 : Nat) (h : Hp) {x : Cx} {r : Int32} (e : F_X10_valueOf_b0 v0 v1 v2 v3 h = some r) (hF : Fin9 M_X10_valueOf x (some .int) (some (.int r)) h) : V M_X10_valueOf x 2 0 [(0, .int v0), (1, .ref v1), (2, .int v2), (3, .ref v3)] [] h 0 0 := by
  unfold F_X10_valueOf_b0 at e
  refine V_iload_n (pc := 0) (i := 0) dX10_valueOf_0 rfl rfl ?_
  refine V_if_lt (pc := 1) (tgt := 6) dX10_valueOf_1 (by decide) (fun c44 => ?_) (fun c44 => ?_)
  · rw [if_pos c44] at e
    refine V_pick [0, 1, 2, 3] rfl ?_
    refine V_aload_n (pc := 6) (i := 3) dX10_valueOf_6 rfl rfl ?_
    refine V_iload_n (pc := 7) (i := 2) dX10_valueOf_7 rfl rfl ?_
    obtain ⟨g1, e⟩ := gd_some e
    obtain ⟨g2, e⟩ := gd_some e
    refine V_iald (pc := 8) dX10_valueOf_8 (of_decide_eq_true g1) (ix_in g2) ?_
    refine V_istore (pc := 9) (i := 4) (lv' := [(4, .int (zI h v3 (v2).toNatClampNeg)), (0, .int v0), (1, .ref v1), (2, .int v2), (3, .ref v3)]) dX10_valueOf_9 (by decide) rfl ?_
    refine V_iload_n (pc := 11) (i := 0) dX10_valueOf_11 rfl rfl ?_
    by_cases c3 : v0 = (-15 : Int32)
    · rw [if_pos c3] at e
      refine V_tableIn (pc := 12) (tgt := 137) dX10_valueOf_12 (by rw [c3]; decide) (by rw [c3]; decide) (by rw [c3]; rfl) (by decide) ?_
      refine V_pick [0] rfl ?_
      refine V_iload (pc := 137) (i := 4) dX10_valueOf_137 rfl ?_
      cases e
      exact V_iret (pc := 139) dX10_valueOf_139 hF
    · rw [if_neg c3] at e
      by_cases c9 : v0 = (-14 : Int32)
      · rw [if_pos c9] at e
        refine V_tableIn (pc := 12) (tgt := 129) dX10_valueOf_12 (by rw [c9]; decide) (by rw [c9]; decide) (by rw [c9]; rfl) (by decide) ?_
        refine V_pick [2, 0] rfl ?_
        refine V_aload_n (pc := 129) (i := 1) dX10_valueOf_129 rfl rfl ?_
        obtain ⟨g4, e⟩ := gd_some e
        obtain ⟨q5, g6, e⟩ := ob_some e
        refine V_getR (pc := 130) (ci := 2) (k := 4) (b := q5) dX10_valueOf_130 fl_X10_141 rfl (of_decide_eq_true g4) g6 ?_
        refine V_iload (pc := 133) (i := 4) dX10_valueOf_133 rfl ?_
        obtain ⟨g7, e⟩ := gd_some e
        obtain ⟨g8, e⟩ := gd_some e
        refine V_iald (pc := 135) dX10_valueOf_135 (of_decide_eq_true g7) (ix_in g8) ?_
        cases e
        exact V_iret (pc := 136) dX10_valueOf_136 hF
      · rw [if_neg c9] at e
        by_cases c13 : v0 = (-13 : Int32)
        · rw [if_pos c13] at e
          refine V_tableIn (pc := 12) (tgt := 121) dX10_valueOf_12 (by rw [c13]; decide) (by rw [c13]; decide) (by rw [c13]; rfl) (by decide) ?_
          refine V_pick [2, 4, 0] rfl ?_
          refine V_aload_n (pc := 121) (i := 1) dX10_valueOf_121 rfl rfl ?_
          refine V_iload (pc := 122) (i := 4) dX10_valueOf_122 rfl ?_
          refine V_aload_n (pc := 124) (i := 3) dX10_valueOf_124 rfl rfl ?_
          obtain ⟨r11, g10, e⟩ := ob_some e
          obtain ⟨g12, e⟩ := gd_some e
          refine V_callV (pc := 125) (bc := 0) (bs := 0) (mc := 0) (ms := 0) (st := []) (As := [.int (zI h v3 (v2).toNatClampNeg), .ref v3]) (a := v1) (h' := h) (r := some (.int r11)) dX10_valueOf_125 ml_X10_124 (ci := 2) rfl (of_decide_eq_true g12) rfl rfl (Nat.le_of_ble_eq_true rfl) (d' := 0) (by decide) (c_X2_headsIn (l := x.2.1) v1 (zI h v3 (v2).toNatClampNeg) v3 h g10) ?_
          cases e
          exact V_iret (pc := 128) dX10_valueOf_128 hF
        · rw [if_neg c13] at e
          by_cases c17 : v0 = (-12 : Int32)
          · rw [if_pos c17] at e
            refine V_tableIn (pc := 12) (tgt := 114) dX10_valueOf_12 (by rw [c17]; decide) (by rw [c17]; decide) (by rw [c17]; rfl) (by decide) ?_
            refine V_pick [2, 0] rfl ?_
            refine V_aload_n (pc := 114) (i := 1) dX10_valueOf_114 rfl rfl ?_
            refine V_iload (pc := 115) (i := 4) dX10_valueOf_115 rfl ?_
            obtain ⟨r15, g14, e⟩ := ob_some e
            obtain ⟨g16, e⟩ := gd_some e
            refine V_callV (pc := 117) (bc := 0) (bs := 0) (mc := 0) (ms := 0) (st := []) (As := [.int (zI h v3 (v2).toNatClampNeg)]) (a := v1) (h' := h) (r := some (.int r15)) dX10_valueOf_117 ml_X10_137 (ci := 2) rfl (of_decide_eq_true g16) rfl rfl (Nat.le_of_ble_eq_true rfl) (d' := 1) (by decide) (c_X2_farOf (l := x.2.1) v1 (zI h v3 (v2).toNatClampNeg) h g14) ?_
            cases e
            exact V_iret (pc := 120) dX10_valueOf_120 hF
          · rw [if_neg c17] at e
            by_cases c23 : v0 = (-11 : Int32)
            · rw [if_pos c23] at e
              refine V_tableIn (pc := 12) (tgt := 103) dX10_valueOf_12 (by rw [c23]; decide) (by rw [c23]; decide) (by rw [c23]; rfl) (by decide) ?_
              refine V_pick [2, 0] rfl ?_
              refine V_aload_n (pc := 103) (i := 1) dX10_valueOf_103 rfl rfl ?_
              obtain ⟨g18, e⟩ := gd_some e
              obtain ⟨q19, g20, e⟩ := ob_some e
              refine V_getR (pc := 104) (ci := 2) (k := 2) (b := q19) dX10_valueOf_104 fl_X10_135 rfl (of_decide_eq_true g18) g20 ?_
              refine V_iload (pc := 107) (i := 4) dX10_valueOf_107 rfl ?_
              obtain ⟨g21, e⟩ := gd_some e
              obtain ⟨g22, e⟩ := gd_some e
              refine V_iald (pc := 109) dX10_valueOf_109 (of_decide_eq_true g21) (ix_in g22) ?_
              refine V_bipush (pc := 110) (v := (9 : Int32)) dX10_valueOf_110 (by decide) ?_
              refine V_iadd (pc := 112) dX10_valueOf_112 ?_
              cases e
              exact V_iret (pc := 113) dX10_valueOf_113 hF
            · rw [if_neg c23] at e
              by_cases c29 : v0 = (-10 : Int32)
              · rw [if_pos c29] at e
                refine V_tableIn (pc := 12) (tgt := 92) dX10_valueOf_12 (by rw [c29]; decide) (by rw [c29]; decide) (by rw [c29]; rfl) (by decide) ?_
                refine V_pick [2, 0] rfl ?_
                refine V_aload_n (pc := 92) (i := 1) dX10_valueOf_92 rfl rfl ?_
                obtain ⟨g24, e⟩ := gd_some e
                obtain ⟨q25, g26, e⟩ := ob_some e
                refine V_getR (pc := 93) (ci := 2) (k := 1) (b := q25) dX10_valueOf_93 fl_X10_133 rfl (of_decide_eq_true g24) g26 ?_
                refine V_iload (pc := 96) (i := 4) dX10_valueOf_96 rfl ?_
                obtain ⟨g27, e⟩ := gd_some e
                obtain ⟨g28, e⟩ := gd_some e
                refine V_iald (pc := 98) dX10_valueOf_98 (of_decide_eq_true g27) (ix_in g28) ?_
                refine V_bipush (pc := 99) (v := (9 : Int32)) dX10_valueOf_99 (by decide) ?_
                refine V_iadd (pc := 101) dX10_valueOf_101 ?_
                cases e
                exact V_iret (pc := 102) dX10_valueOf_102 hF
              · rw [if_neg c29] at e
                by_cases c32 : v0 = (-9 : Int32)
                · rw [if_pos c32] at e
                  refine V_tableIn (pc := 12) (tgt := 77) dX10_valueOf_12 (by rw [c32]; decide) (by rw [c32]; decide) (by rw [c32]; rfl) (by decide) ?_
                  refine V_pick [2, 0] rfl ?_
                  refine V_aload_n (pc := 77) (i := 1) dX10_valueOf_77 rfl rfl ?_
                  obtain ⟨g30, e⟩ := gd_some e
                  refine V_getI (pc := 78) (ci := 2) (k := 11) dX10_valueOf_78 fl_X10_130 rfl (of_decide_eq_true g30) ?_
                  refine V_iload (pc := 81) (i := 4) dX10_valueOf_81 rfl ?_
                  refine V_icmp_ne (pc := 83) (tgt := 90) dX10_valueOf_83 (by decide) (fun c31 => ?_) (fun c31 => ?_)
                  · rw [if_neg c31] at e
                    refine V_pick [] rfl ?_
                    refine V_iconst (pc := 90) (v := (0 : Int32)) dX10_valueOf_90 (by decide) ?_
                    exact V_pick [] rfl (r_X10_valueOf_b91 (0 : Int32) h e hF)
                  · rw [if_pos c31] at e
                    refine V_pick [] rfl ?_
                    refine V_iconst (pc := 86) (v := (1 : Int32)) dX10_valueOf_86 (by decide) ?_
                    refine V_goto (pc := 87) (tgt := 91) dX10_valueOf_87 (by decide) ?_
                    exact V_pick [] rfl (r_X10_valueOf_b91 (1 : Int32) h e hF)
                · rw [if_neg c32] at e
                  by_cases c37 : v0 = (-8 : Int32)
                  · rw [if_pos c37] at e
                    refine V_tableIn (pc := 12) (tgt := 60) dX10_valueOf_12 (by rw [c37]; decide) (by rw [c37]; decide) (by rw [c37]; rfl) (by decide) ?_
                    refine V_pick [2, 4, 0] rfl ?_
                    refine V_aload_n (pc := 60) (i := 1) dX10_valueOf_60 rfl rfl ?_
                    refine V_iload (pc := 61) (i := 4) dX10_valueOf_61 rfl ?_
                    refine V_aload_n (pc := 63) (i := 3) dX10_valueOf_63 rfl rfl ?_
                    obtain ⟨r34, g33, e⟩ := ob_some e
                    obtain ⟨g35, e⟩ := gd_some e
                    refine V_callV (pc := 64) (bc := 0) (bs := 0) (mc := 0) (ms := 0) (st := []) (As := [.int (zI h v3 (v2).toNatClampNeg), .ref v3]) (a := v1) (h' := h) (r := some (.int r34)) dX10_valueOf_64 ml_X10_124 (ci := 2) rfl (of_decide_eq_true g35) rfl rfl (Nat.le_of_ble_eq_true rfl) (d' := 0) (by decide) (c_X2_headsIn (l := x.2.1) v1 (zI h v3 (v2).toNatClampNeg) v3 h g33) ?_
                    refine V_iconst (pc := 67) (v := (1 : Int32)) dX10_valueOf_67 (by decide) ?_
                    refine V_icmp_ne (pc := 68) (tgt := 75) dX10_valueOf_68 (by decide) (fun c36 => ?_) (fun c36 => ?_)
                    · rw [if_neg c36] at e
                      refine V_pick [] rfl ?_
                      refine V_iconst (pc := 75) (v := (0 : Int32)) dX10_valueOf_75 (by decide) ?_
                      exact V_pick [] rfl (r_X10_valueOf_b76 (0 : Int32) h e hF)
                    · rw [if_pos c36] at e
                      refine V_pick [] rfl ?_
                      refine V_iconst (pc := 71) (v := (1 : Int32)) dX10_valueOf_71 (by decide) ?_
                      refine V_goto (pc := 72) (tgt := 76) dX10_valueOf_72 (by decide) ?_
                      exact V_pick [] rfl (r_X10_valueOf_b76 (1 : Int32) h e hF)
                  · rw [if_neg c37] at e
                    refine V_tableOut (pc := 12) (tgt := 140) dX10_valueOf_12 (by have q0 := tI_ne c3 (z := -15) (by decide); have q1 := tI_ne c9 (z := -14) (by decide); have q2 := tI_ne c13 (z := -13) (by decide); have q3 := tI_ne c17 (z := -12) (by decide); have q4 := tI_ne c23 (z := -11) (by decide); have q5 := tI_ne c29 (z := -10) (by decide); have q6 := tI_ne c32 (z := -9) (by decide); have q7 := tI_ne c37 (z := -8) (by decide); omega) (by decide) ?_
                    refine V_pick [1, 2, 4, 0] rfl ?_
                    refine V_bipush (pc := 140) (v := (-16 : Int32)) dX10_valueOf_140 (by decide) ?_
                    refine V_iload_n (pc := 142) (i := 0) dX10_valueOf_142 rfl rfl ?_
                    refine V_isub (pc := 143) dX10_valueOf_143 ?_
                    refine V_istore (pc := 144) (i := 5) (lv' := [(5, .int ((-16 : Int32) - v0)), (0, .int v0), (1, .ref v1), (3, .ref v3), (4, .int (zI h v3 (v2).toNatClampNeg))]) dX10_valueOf_144 (by decide) rfl ?_
                    refine V_aload_n (pc := 146) (i := 1) dX10_valueOf_146 rfl rfl ?_
                    refine V_iload (pc := 147) (i := 5) dX10_valueOf_147 rfl ?_
                    obtain ⟨r39, g38, e⟩ := ob_some e
                    obtain ⟨g40, e⟩ := gd_some e
                    refine V_callV (pc := 149) (bc := 0) (bs := 0) (mc := 0) (ms := 0) (st := []) (As := [.int ((-16 : Int32) - v0)]) (a := v1) (h' := h) (r := some (.int r39)) dX10_valueOf_149 ml_X10_143 (ci := 2) rfl (of_decide_eq_true g40) rfl rfl (Nat.le_of_ble_eq_true rfl) (d' := 0) (by decide) (c_X2_hasGuest (l := x.2.1) v1 ((-16 : Int32) - v0) h g38) ?_
                    refine V_if_eq (pc := 152) (tgt := 168) dX10_valueOf_152 (by decide) (fun c43 => ?_) (fun c43 => ?_)
                    · rw [if_pos c43] at e
                      exact V_pick [] rfl (r_X10_valueOf_b168 h e hF)
                    · rw [if_neg c43] at e
                      refine V_pick [3, 4, 0] rfl ?_
                      refine V_aload_n (pc := 155) (i := 3) dX10_valueOf_155 rfl rfl ?_
                      refine V_iload (pc := 156) (i := 5) dX10_valueOf_156 rfl ?_
                      obtain ⟨g41, e⟩ := gd_some e
                      refine V_iald (pc := 158) dX10_valueOf_158 (of_decide_eq_true g1) (ix_in g41) ?_
                      refine V_iload (pc := 159) (i := 4) dX10_valueOf_159 rfl ?_
                      refine V_icmp_ne (pc := 161) (tgt := 168) dX10_valueOf_161 (by decide) (fun c42 => ?_) (fun c42 => ?_)
                      · rw [if_neg c42] at e
                        exact V_pick [] rfl (r_X10_valueOf_b168 h e hF)
                      · rw [if_pos c42] at e
                        refine V_pick [] rfl ?_
                        refine V_iconst (pc := 164) (v := (1 : Int32)) dX10_valueOf_164 (by decide) ?_
                        refine V_goto (pc := 165) (tgt := 169) dX10_valueOf_165 (by decide) ?_
                        exact V_pick [] rfl (r_X10_valueOf_b169 (1 : Int32) h e hF)
  · rw [if_neg c44] at e
    refine V_pick [0] rfl ?_
    refine V_iload_n (pc := 4) (i := 0) dX10_valueOf_4 rfl rfl ?_
    cases e
    exact V_iret (pc := 5) dX10_valueOf_5 hF
def F_X10_valueOf (v0 : Int32) (v1 : Nat) (v2 : Int32) (v3 : Nat) (h : Hp) : Option Int32 := F_X10_valueOf_b0 v0 v1 v2 v3 h
theorem c_X10_valueOf {l : Launch} (v0 : Int32) (v1 : Nat) (v2 : Int32) (v3 : Nat) (h : Hp) {r : Int32} (e : F_X10_valueOf v0 v1 v2 v3 h = some r) : Ct l yX10_valueOf M_X10_valueOf (some .int) 2 [.int v0, .ref v1, .int v2, .ref v3] h 0 0 (some (.int r)) h :=
  Ct_of rfl rfl (fun q => by cases q) (Nat.le_of_ble_eq_true rfl) (fun x _ hF => V_pick [0, 1, 2, 3] rfl (r_X10_valueOf_b0 v0 v1 v2 v3 h e hF))
theorem dJ7_fill_53178_0 : decode cJ7_fill_53178 0 = .ok (.iconst 0, 1) := by decide +kernel
theorem dJ7_fill_53178_1 : decode cJ7_fill_53178 1 = .ok (.istore_n 2, 1) := by decide +kernel
theorem dJ7_fill_53178_2 : decode cJ7_fill_53178 2 = .ok (.aload_n 0, 1) := by decide +kernel
theorem dJ7_fill_53178_3 : decode cJ7_fill_53178 3 = .ok (.arraylength, 1) := by decide +kernel
theorem dJ7_fill_53178_4 : decode cJ7_fill_53178 4 = .ok (.istore_n 3, 1) := by decide +kernel
theorem dJ7_fill_53178_5 : decode cJ7_fill_53178 5 = .ok (.iload_n 2, 1) := by decide +kernel
theorem dJ7_fill_53178_6 : decode cJ7_fill_53178 6 = .ok (.iload_n 3, 1) := by decide +kernel
theorem dJ7_fill_53178_7 : decode cJ7_fill_53178 7 = .ok (.if_icmp .ge 13, 3) := by decide +kernel
theorem dJ7_fill_53178_10 : decode cJ7_fill_53178 10 = .ok (.aload_n 0, 1) := by decide +kernel
theorem dJ7_fill_53178_11 : decode cJ7_fill_53178 11 = .ok (.iload_n 2, 1) := by decide +kernel
theorem dJ7_fill_53178_12 : decode cJ7_fill_53178 12 = .ok (.iload_n 1, 1) := by decide +kernel
theorem dJ7_fill_53178_13 : decode cJ7_fill_53178 13 = .ok (.iastore, 1) := by decide +kernel
theorem dJ7_fill_53178_14 : decode cJ7_fill_53178 14 = .ok (.iinc 2 1, 3) := by decide +kernel
theorem dJ7_fill_53178_17 : decode cJ7_fill_53178 17 = .ok (.goto (-12), 3) := by decide +kernel
theorem dJ7_fill_53178_20 : decode cJ7_fill_53178 20 = .ok (.return_, 1) := by decide +kernel
set_option maxRecDepth 100000 in
def F_J7_fill_53178_l5 (v0 : Nat) (v1 : Int32) (v2 : Int32) (v3 : Int32) (h : Hp) : Option ((Int32 × Hp) ⊕ Hp) :=
  (if v3 ≤ v2 then some (.inr h) else gd (decide (kd h v0 = 13)) <| gd (ix v2 (zl h v0)) <| some (.inl (v2 + (1 : Int32), setI h v0 (v2).toNatClampNeg v1)))
set_option maxHeartbeats 4000000 in
set_option maxRecDepth 100000 in
theorem r_J7_fill_53178_l5 (v0 : Nat) (v1 : Int32) (v2 : Int32) (v3 : Int32) (h : Hp) {x : Cx} {o : ((Int32 × Hp) ⊕ Hp)} (e : F_J7_fill_53178_l5 v0 v1 v2 v3 h = some o) (kI : ∀ z, o = .inl z → V M_J7_fill_53178 x 0 5 [(0, .ref v0), (1, .int v1), (2, .int z.1), (3, .int v3)] [] z.2 0 0) (kE20 : ∀ z : Hp, o = .inr z → V M_J7_fill_53178 x 0 20 [] [] z 0 0) : V M_J7_fill_53178 x 0 5 [(0, .ref v0), (1, .int v1), (2, .int v2), (3, .int v3)] [] h 0 0 := by
  unfold F_J7_fill_53178_l5 at e
  refine V_iload_n (pc := 5) (i := 2) dJ7_fill_53178_5 rfl rfl ?_
  refine V_iload_n (pc := 6) (i := 3) dJ7_fill_53178_6 rfl rfl ?_
  refine V_icmp_ge (pc := 7) (tgt := 20) dJ7_fill_53178_7 (by decide) (fun c4 => ?_) (fun c4 => ?_)
  · rw [if_pos c4] at e
    cases e
    exact V_pick [] rfl (kE20 h rfl)
  · rw [if_neg c4] at e
    refine V_pick [0, 1, 2, 3] rfl ?_
    refine V_aload_n (pc := 10) (i := 0) dJ7_fill_53178_10 rfl rfl ?_
    refine V_iload_n (pc := 11) (i := 2) dJ7_fill_53178_11 rfl rfl ?_
    refine V_iload_n (pc := 12) (i := 1) dJ7_fill_53178_12 rfl rfl ?_
    obtain ⟨g2, e⟩ := gd_some e
    obtain ⟨g3, e⟩ := gd_some e
    refine V_iast (pc := 13) dJ7_fill_53178_13 (of_decide_eq_true g2) (ix_in g3) ?_
    refine V_iinc (pc := 14) (i := 2) (u := v2 + (1 : Int32)) (lv' := [(2, .int (v2 + (1 : Int32))), (0, .ref v0), (1, .int v1), (3, .int v3)]) dJ7_fill_53178_14 rfl rfl (by decide) rfl ?_
    refine V_goto (pc := 17) (tgt := 5) dJ7_fill_53178_17 (by decide) ?_
    cases e
    exact V_pick [1, 2, 0, 3] rfl (kI (v2 + (1 : Int32), setI h v0 (v2).toNatClampNeg v1) rfl)
set_option maxRecDepth 100000 in
def F_J7_fill_53178_b0 (v0 : Nat) (v1 : Int32) (h : Hp) : Option (Unit × Hp) :=
  gd (decide (kd h v0 = 13)) <| ob (iter (fun z : Int32 × Hp => F_J7_fill_53178_l5 v0 v1 z.1 (Int32.ofNat (zl h v0)) z.2) FU ((0 : Int32), h)) (fun h5 => some ((), h5))
set_option maxHeartbeats 4000000 in
set_option maxRecDepth 100000 in
theorem r_J7_fill_53178_b0 (v0 : Nat) (v1 : Int32) (h : Hp) {x : Cx} {r : Unit} {hz : Hp} (e : F_J7_fill_53178_b0 v0 v1 h = some (r, hz)) (hF : Fin9 M_J7_fill_53178 x none none hz) : V M_J7_fill_53178 x 0 0 [(0, .ref v0), (1, .int v1)] [] h 0 0 := by
  unfold F_J7_fill_53178_b0 at e
  refine V_iconst (pc := 0) (v := (0 : Int32)) dJ7_fill_53178_0 (by decide) ?_
  refine V_istore_n (pc := 1) (i := 2) (lv' := [(2, .int (0 : Int32)), (0, .ref v0), (1, .int v1)]) dJ7_fill_53178_1 rfl (by decide) rfl ?_
  refine V_aload_n (pc := 2) (i := 0) dJ7_fill_53178_2 rfl rfl ?_
  obtain ⟨g1, e⟩ := gd_some e
  refine V_alen (pc := 3) (k := 13) dJ7_fill_53178_3 (of_decide_eq_true g1) (by decide) ?_
  refine V_istore_n (pc := 4) (i := 3) (lv' := [(3, .int (Int32.ofNat (zl h v0))), (2, .int (0 : Int32)), (0, .ref v0), (1, .int v1)]) dJ7_fill_53178_4 rfl (by decide) rfl ?_
  refine V_pick [2, 3, 1, 0] rfl ?_
  obtain ⟨y6, g7, e⟩ := ob_some e
  refine iter_V (P := fun z : Int32 × Hp => V M_J7_fill_53178 x 0 5 [(0, .ref v0), (1, .int v1), (2, .int z.1), (3, .int (Int32.ofNat (zl h v0)))] [] z.2 0 0) (E := fun z : Hp => V M_J7_fill_53178 x 0 20 [] [] z 0 0) (fun z o e9 k1 k2 => r_J7_fill_53178_l5 v0 v1 z.1 (Int32.ofNat (zl h v0)) z.2 e9 (fun z hz9 => k1 z hz9) (fun z hz9 => k2 _ hz9)) _ _ _ g7 ?_
  clear g7
  obtain ⟨h5, rfl⟩ : ∃ q, q = y6 := ⟨_, rfl⟩
  replace e : (some ((), h5)) = some (r, hz) := e
  show V M_J7_fill_53178 x 0 20 [] [] h5 0 0
  cases e
  exact V_vret (pc := 20) dJ7_fill_53178_20 hF
def F_J7_fill_53178 (v0 : Nat) (v1 : Int32) (h : Hp) : Option (Unit × Hp) := F_J7_fill_53178_b0 v0 v1 h
theorem c_J7_fill_53178 {l : Launch} (v0 : Nat) (v1 : Int32) (h : Hp) {r : Unit} {hz : Hp} (e : F_J7_fill_53178 v0 v1 h = some (r, hz)) : Ct l yJ7_fill_53178 M_J7_fill_53178 none 0 [.ref v0, .int v1] h 0 0 none hz :=
  Ct_of rfl rfl (fun q => by cases q) (Nat.le_of_ble_eq_true rfl) (fun x _ hF => V_pick [0, 1] rfl (r_J7_fill_53178_b0 v0 v1 h e hF))
theorem dX7_init_0 : decode cX7_init 0 = .ok (.aload_n 0, 1) := by decide +kernel
theorem dX7_init_1 : decode cX7_init 1 = .ok (.invokespecial 1, 3) := by decide +kernel
theorem dX7_init_4 : decode cX7_init 4 = .ok (.aload_n 0, 1) := by decide +kernel
theorem dX7_init_5 : decode cX7_init 5 = .ok (.iconst 0, 1) := by decide +kernel
theorem dX7_init_6 : decode cX7_init 6 = .ok (.putfield 7, 3) := by decide +kernel
theorem dX7_init_9 : decode cX7_init 9 = .ok (.return_, 1) := by decide +kernel
set_option maxRecDepth 100000 in
def F_X7_init_k0_b0 (v0 : Nat) (h : Hp) : Option (Unit × Hp) :=
  gd (decide (kd h v0 = 0)) <| some ((), setI h v0 0 (0 : Int32))
set_option maxHeartbeats 4000000 in
set_option maxRecDepth 100000 in
theorem r_X7_init_k0_b0 (v0 : Nat) (h : Hp) {x : Cx} {r : Unit} {hz : Hp} (e : F_X7_init_k0_b0 v0 h = some (r, hz)) (hF : Fin9 M_X7_init_k0 x none none hz) : V M_X7_init_k0 x 1 0 [(0, .ref v0)] [] h 0 0 := by
  unfold F_X7_init_k0_b0 at e
  refine V_aload_n (pc := 0) (i := 0) dX7_init_0 rfl rfl ?_
  refine V_objI (pc := 1) dX7_init_1 wo_X7_1 (by decide) (Nat.le_of_ble_eq_true rfl) ?_
  refine V_aload_n (pc := 4) (i := 0) dX7_init_4 rfl rfl ?_
  refine V_iconst (pc := 5) (v := (0 : Int32)) dX7_init_5 (by decide) ?_
  obtain ⟨g1, e⟩ := gd_some e
  refine V_putI (pc := 6) (ci := 0) (k := 0) dX7_init_6 fp_X7_7_k0 rfl (of_decide_eq_true g1) ?_
  cases e
  exact V_vret (pc := 9) dX7_init_9 hF
def F_X7_init_k0 (v0 : Nat) (h : Hp) : Option (Unit × Hp) := F_X7_init_k0_b0 v0 h
theorem c_X7_init_k0 {l : Launch} (v0 : Nat) (h : Hp) {r : Unit} {hz : Hp} (e : F_X7_init_k0 v0 h = some (r, hz)) : Ct l yX7_init M_X7_init_k0 none 1 [.ref v0] h 0 0 none hz :=
  Ct_of rfl rfl (fun _ => rfl) (Nat.le_of_ble_eq_true rfl) (fun x _ hF => V_pick [0] rfl (r_X7_init_k0_b0 v0 h e hF))
set_option maxRecDepth 100000 in
def F_X7_init_k3_b0 (v0 : Nat) (h : Hp) : Option (Unit × Hp) :=
  gd (decide (kd h v0 = 3)) <| some ((), setI h v0 0 (0 : Int32))
set_option maxHeartbeats 4000000 in
set_option maxRecDepth 100000 in
theorem r_X7_init_k3_b0 (v0 : Nat) (h : Hp) {x : Cx} {r : Unit} {hz : Hp} (e : F_X7_init_k3_b0 v0 h = some (r, hz)) (hF : Fin9 M_X7_init_k3 x none none hz) : V M_X7_init_k3 x 1 0 [(0, .ref v0)] [] h 0 0 := by
  unfold F_X7_init_k3_b0 at e
  refine V_aload_n (pc := 0) (i := 0) dX7_init_0 rfl rfl ?_
  refine V_objI (pc := 1) dX7_init_1 wo_X7_1 (by decide) (Nat.le_of_ble_eq_true rfl) ?_
  refine V_aload_n (pc := 4) (i := 0) dX7_init_4 rfl rfl ?_
  refine V_iconst (pc := 5) (v := (0 : Int32)) dX7_init_5 (by decide) ?_
  obtain ⟨g1, e⟩ := gd_some e
  refine V_putI (pc := 6) (ci := 3) (k := 0) dX7_init_6 fp_X7_7_k3 rfl (of_decide_eq_true g1) ?_
  cases e
  exact V_vret (pc := 9) dX7_init_9 hF
def F_X7_init_k3 (v0 : Nat) (h : Hp) : Option (Unit × Hp) := F_X7_init_k3_b0 v0 h
theorem c_X7_init_k3 {l : Launch} (v0 : Nat) (h : Hp) {r : Unit} {hz : Hp} (e : F_X7_init_k3 v0 h = some (r, hz)) : Ct l yX7_init M_X7_init_k3 none 1 [.ref v0] h 0 0 none hz :=
  Ct_of rfl rfl (fun _ => rfl) (Nat.le_of_ble_eq_true rfl) (fun x _ hF => V_pick [0] rfl (r_X7_init_k3_b0 v0 h e hF))
set_option maxRecDepth 100000 in
def F_X7_init_k9_b0 (v0 : Nat) (h : Hp) : Option (Unit × Hp) :=
  gd (decide (kd h v0 = 9)) <| some ((), setI h v0 0 (0 : Int32))
set_option maxHeartbeats 4000000 in
set_option maxRecDepth 100000 in
theorem r_X7_init_k9_b0 (v0 : Nat) (h : Hp) {x : Cx} {r : Unit} {hz : Hp} (e : F_X7_init_k9_b0 v0 h = some (r, hz)) (hF : Fin9 M_X7_init_k9 x none none hz) : V M_X7_init_k9 x 1 0 [(0, .ref v0)] [] h 0 0 := by
  unfold F_X7_init_k9_b0 at e
  refine V_aload_n (pc := 0) (i := 0) dX7_init_0 rfl rfl ?_
  refine V_objI (pc := 1) dX7_init_1 wo_X7_1 (by decide) (Nat.le_of_ble_eq_true rfl) ?_
  refine V_aload_n (pc := 4) (i := 0) dX7_init_4 rfl rfl ?_
  refine V_iconst (pc := 5) (v := (0 : Int32)) dX7_init_5 (by decide) ?_
  obtain ⟨g1, e⟩ := gd_some e
  refine V_putI (pc := 6) (ci := 9) (k := 0) dX7_init_6 fp_X7_7_k9 rfl (of_decide_eq_true g1) ?_
  cases e
  exact V_vret (pc := 9) dX7_init_9 hF
def F_X7_init_k9 (v0 : Nat) (h : Hp) : Option (Unit × Hp) := F_X7_init_k9_b0 v0 h
theorem c_X7_init_k9 {l : Launch} (v0 : Nat) (h : Hp) {r : Unit} {hz : Hp} (e : F_X7_init_k9 v0 h = some (r, hz)) : Ct l yX7_init M_X7_init_k9 none 1 [.ref v0] h 0 0 none hz :=
  Ct_of rfl rfl (fun _ => rfl) (Nat.le_of_ble_eq_true rfl) (fun x _ hF => V_pick [0] rfl (r_X7_init_k9_b0 v0 h e hF))
theorem dX11_feed_0 : decode cX11_feed 0 = .ok (.aload_n 0, 1) := by decide +kernel
theorem dX11_feed_1 : decode cX11_feed 1 = .ok (.getfield 10, 3) := by decide +kernel
theorem dX11_feed_4 : decode cX11_feed 4 = .ok (.getfield 75, 3) := by decide +kernel
theorem dX11_feed_7 : decode cX11_feed 7 = .ok (.bipush 20, 2) := by decide +kernel
theorem dX11_feed_9 : decode cX11_feed 9 = .ok (.iadd, 1) := by decide +kernel
theorem dX11_feed_10 : decode cX11_feed 10 = .ok (.sipush 400, 3) := by decide +kernel
theorem dX11_feed_13 : decode cX11_feed 13 = .ok (.if_icmp .le 5, 3) := by decide +kernel
theorem dX11_feed_16 : decode cX11_feed 16 = .ok (.iconst (-1), 1) := by decide +kernel
theorem dX11_feed_17 : decode cX11_feed 17 = .ok (.ireturn, 1) := by decide +kernel
theorem dX11_feed_18 : decode cX11_feed 18 = .ok (.aload_n 0, 1) := by decide +kernel
theorem dX11_feed_19 : decode cX11_feed 19 = .ok (.getfield 10, 3) := by decide +kernel
theorem dX11_feed_22 : decode cX11_feed 22 = .ok (.iload_n 1, 1) := by decide +kernel
theorem dX11_feed_23 : decode cX11_feed 23 = .ok (.invokevirtual 79, 3) := by decide +kernel
theorem dX11_feed_26 : decode cX11_feed 26 = .ok (.aload_n 0, 1) := by decide +kernel
theorem dX11_feed_27 : decode cX11_feed 27 = .ok (.getfield 10, 3) := by decide +kernel
theorem dX11_feed_30 : decode cX11_feed 30 = .ok (.iload_n 2, 1) := by decide +kernel
theorem dX11_feed_31 : decode cX11_feed 31 = .ok (.invokevirtual 79, 3) := by decide +kernel
theorem dX11_feed_34 : decode cX11_feed 34 = .ok (.aload_n 0, 1) := by decide +kernel
theorem dX11_feed_35 : decode cX11_feed 35 = .ok (.getfield 10, 3) := by decide +kernel
theorem dX11_feed_38 : decode cX11_feed 38 = .ok (.iload_n 3, 1) := by decide +kernel
theorem dX11_feed_39 : decode cX11_feed 39 = .ok (.invokevirtual 79, 3) := by decide +kernel
theorem dX11_feed_42 : decode cX11_feed 42 = .ok (.aload_n 0, 1) := by decide +kernel
theorem dX11_feed_43 : decode cX11_feed 43 = .ok (.getfield 10, 3) := by decide +kernel
theorem dX11_feed_46 : decode cX11_feed 46 = .ok (.iload 4, 2) := by decide +kernel
theorem dX11_feed_48 : decode cX11_feed 48 = .ok (.invokevirtual 79, 3) := by decide +kernel
theorem dX11_feed_51 : decode cX11_feed 51 = .ok (.aload_n 0, 1) := by decide +kernel
theorem dX11_feed_52 : decode cX11_feed 52 = .ok (.getfield 10, 3) := by decide +kernel
theorem dX11_feed_55 : decode cX11_feed 55 = .ok (.iload 5, 2) := by decide +kernel
theorem dX11_feed_57 : decode cX11_feed 57 = .ok (.invokevirtual 79, 3) := by decide +kernel
theorem dX11_feed_60 : decode cX11_feed 60 = .ok (.aload_n 0, 1) := by decide +kernel
theorem dX11_feed_61 : decode cX11_feed 61 = .ok (.getfield 10, 3) := by decide +kernel
theorem dX11_feed_64 : decode cX11_feed 64 = .ok (.getfield 75, 3) := by decide +kernel
theorem dX11_feed_67 : decode cX11_feed 67 = .ok (.ireturn, 1) := by decide +kernel
set_option maxRecDepth 100000 in
def F_X11_feed_b0 (v0 : Nat) (v1 : Int32) (v2 : Int32) (v3 : Int32) (v4 : Int32) (v5 : Int32) (h : Hp) : Option (Int32 × Hp) :=
  gd (decide (kd h v0 = 10)) <| ob (zR h v0 0) fun q2 => gd (decide (kd h q2 = 6)) <| (if ((zI h q2 1) + (20 : Int32)) ≤ (400 : Int32) then ob (zR h v0 0) fun q5 => ob2 (F_X6_append q5 v1 h) fun _ h9 => gd (decide (kd h q5 = 6)) <| gd (decide (kd h9 v0 = 10)) <| ob (zR h9 v0 0) fun q12 => ob2 (F_X6_append q12 v2 h9) fun _ h16 => gd (decide (kd h9 q12 = 6)) <| gd (decide (kd h16 v0 = 10)) <| ob (zR h16 v0 0) fun q19 => ob2 (F_X6_append q19 v3 h16) fun _ h23 => gd (decide (kd h16 q19 = 6)) <| gd (decide (kd h23 v0 = 10)) <| ob (zR h23 v0 0) fun q26 => ob2 (F_X6_append q26 v4 h23) fun _ h30 => gd (decide (kd h23 q26 = 6)) <| gd (decide (kd h30 v0 = 10)) <| ob (zR h30 v0 0) fun q33 => ob2 (F_X6_append q33 v5 h30) fun _ h37 => gd (decide (kd h30 q33 = 6)) <| gd (decide (kd h37 v0 = 10)) <| ob (zR h37 v0 0) fun q40 => gd (decide (kd h37 q40 = 6)) <| some (zI h37 q40 1, h37) else some ((-1 : Int32), h))
set_option maxHeartbeats 4000000 in
set_option maxRecDepth 100000 in
theorem r_X11_feed_b0 (v0 : Nat) (v1 : Int32) (v2 : Int32) (v3 : Int32) (v4 : Int32) (v5 : Int32) (h : Hp) {x : Cx} {r : Int32} {hz : Hp} (e : F_X11_feed_b0 v0 v1 v2 v3 v4 v5 h = some (r, hz)) (hF : Fin9 M_X11_feed x (some .int) (some (.int r)) hz) : V M_X11_feed x 1 0 [(0, .ref v0), (1, .int v1), (2, .int v2), (3, .int v3), (4, .int v4), (5, .int v5)] [] h 0 0 := by
  unfold F_X11_feed_b0 at e
  refine V_aload_n (pc := 0) (i := 0) dX11_feed_0 rfl rfl ?_
  obtain ⟨g1, e⟩ := gd_some e
  obtain ⟨q2, g3, e⟩ := ob_some e
  refine V_getR (pc := 1) (ci := 10) (k := 0) (b := q2) dX11_feed_1 fl_X11_10 rfl (of_decide_eq_true g1) g3 ?_
  obtain ⟨g4, e⟩ := gd_some e
  refine V_getI (pc := 4) (ci := 6) (k := 1) dX11_feed_4 fl_X11_75 rfl (of_decide_eq_true g4) ?_
  refine V_bipush (pc := 7) (v := (20 : Int32)) dX11_feed_7 (by decide) ?_
  refine V_iadd (pc := 9) dX11_feed_9 ?_
  refine V_sipush (pc := 10) (v := (400 : Int32)) dX11_feed_10 (by decide) ?_
  refine V_icmp_le (pc := 13) (tgt := 18) dX11_feed_13 (by decide) (fun c43 => ?_) (fun c43 => ?_)
  · rw [if_pos c43] at e
    refine V_pick [0, 1, 2, 3, 4, 5] rfl ?_
    refine V_aload_n (pc := 18) (i := 0) dX11_feed_18 rfl rfl ?_
    obtain ⟨q5, g6, e⟩ := ob_some e
    refine V_getR (pc := 19) (ci := 10) (k := 0) (b := q5) dX11_feed_19 fl_X11_10 rfl (of_decide_eq_true g1) g6 ?_
    refine V_iload_n (pc := 22) (i := 1) dX11_feed_22 rfl rfl ?_
    obtain ⟨r8, h9, g7, e⟩ := ob2_some e
    obtain ⟨g10, e⟩ := gd_some e
    refine V_callV (pc := 23) (bc := 0) (bs := 0) (mc := 0) (ms := 0) (st := []) (As := [.int v1]) (a := q5) (h' := h9) (r := none) dX11_feed_23 ml_X11_79 (ci := 6) rfl (of_decide_eq_true g10) rfl rfl (Nat.le_of_ble_eq_true rfl) (d' := 0) (by decide) (c_X6_append (l := x.2.1) q5 v1 h g7) ?_
    refine V_aload_n (pc := 26) (i := 0) dX11_feed_26 rfl rfl ?_
    obtain ⟨g11, e⟩ := gd_some e
    obtain ⟨q12, g13, e⟩ := ob_some e
    refine V_getR (pc := 27) (ci := 10) (k := 0) (b := q12) dX11_feed_27 fl_X11_10 rfl (of_decide_eq_true g11) g13 ?_
    refine V_iload_n (pc := 30) (i := 2) dX11_feed_30 rfl rfl ?_
    obtain ⟨r15, h16, g14, e⟩ := ob2_some e
    obtain ⟨g17, e⟩ := gd_some e
    refine V_callV (pc := 31) (bc := 0) (bs := 0) (mc := 0) (ms := 0) (st := []) (As := [.int v2]) (a := q12) (h' := h16) (r := none) dX11_feed_31 ml_X11_79 (ci := 6) rfl (of_decide_eq_true g17) rfl rfl (Nat.le_of_ble_eq_true rfl) (d' := 0) (by decide) (c_X6_append (l := x.2.1) q12 v2 h9 g14) ?_
    refine V_aload_n (pc := 34) (i := 0) dX11_feed_34 rfl rfl ?_
    obtain ⟨g18, e⟩ := gd_some e
    obtain ⟨q19, g20, e⟩ := ob_some e
    refine V_getR (pc := 35) (ci := 10) (k := 0) (b := q19) dX11_feed_35 fl_X11_10 rfl (of_decide_eq_true g18) g20 ?_
    refine V_iload_n (pc := 38) (i := 3) dX11_feed_38 rfl rfl ?_
    obtain ⟨r22, h23, g21, e⟩ := ob2_some e
    obtain ⟨g24, e⟩ := gd_some e
    refine V_callV (pc := 39) (bc := 0) (bs := 0) (mc := 0) (ms := 0) (st := []) (As := [.int v3]) (a := q19) (h' := h23) (r := none) dX11_feed_39 ml_X11_79 (ci := 6) rfl (of_decide_eq_true g24) rfl rfl (Nat.le_of_ble_eq_true rfl) (d' := 0) (by decide) (c_X6_append (l := x.2.1) q19 v3 h16 g21) ?_
    refine V_aload_n (pc := 42) (i := 0) dX11_feed_42 rfl rfl ?_
    obtain ⟨g25, e⟩ := gd_some e
    obtain ⟨q26, g27, e⟩ := ob_some e
    refine V_getR (pc := 43) (ci := 10) (k := 0) (b := q26) dX11_feed_43 fl_X11_10 rfl (of_decide_eq_true g25) g27 ?_
    refine V_iload (pc := 46) (i := 4) dX11_feed_46 rfl ?_
    obtain ⟨r29, h30, g28, e⟩ := ob2_some e
    obtain ⟨g31, e⟩ := gd_some e
    refine V_callV (pc := 48) (bc := 0) (bs := 0) (mc := 0) (ms := 0) (st := []) (As := [.int v4]) (a := q26) (h' := h30) (r := none) dX11_feed_48 ml_X11_79 (ci := 6) rfl (of_decide_eq_true g31) rfl rfl (Nat.le_of_ble_eq_true rfl) (d' := 0) (by decide) (c_X6_append (l := x.2.1) q26 v4 h23 g28) ?_
    refine V_aload_n (pc := 51) (i := 0) dX11_feed_51 rfl rfl ?_
    obtain ⟨g32, e⟩ := gd_some e
    obtain ⟨q33, g34, e⟩ := ob_some e
    refine V_getR (pc := 52) (ci := 10) (k := 0) (b := q33) dX11_feed_52 fl_X11_10 rfl (of_decide_eq_true g32) g34 ?_
    refine V_iload (pc := 55) (i := 5) dX11_feed_55 rfl ?_
    obtain ⟨r36, h37, g35, e⟩ := ob2_some e
    obtain ⟨g38, e⟩ := gd_some e
    refine V_callV (pc := 57) (bc := 0) (bs := 0) (mc := 0) (ms := 0) (st := []) (As := [.int v5]) (a := q33) (h' := h37) (r := none) dX11_feed_57 ml_X11_79 (ci := 6) rfl (of_decide_eq_true g38) rfl rfl (Nat.le_of_ble_eq_true rfl) (d' := 0) (by decide) (c_X6_append (l := x.2.1) q33 v5 h30 g35) ?_
    refine V_aload_n (pc := 60) (i := 0) dX11_feed_60 rfl rfl ?_
    obtain ⟨g39, e⟩ := gd_some e
    obtain ⟨q40, g41, e⟩ := ob_some e
    refine V_getR (pc := 61) (ci := 10) (k := 0) (b := q40) dX11_feed_61 fl_X11_10 rfl (of_decide_eq_true g39) g41 ?_
    obtain ⟨g42, e⟩ := gd_some e
    refine V_getI (pc := 64) (ci := 6) (k := 1) dX11_feed_64 fl_X11_75 rfl (of_decide_eq_true g42) ?_
    cases e
    exact V_iret (pc := 67) dX11_feed_67 hF
  · rw [if_neg c43] at e
    refine V_pick [] rfl ?_
    refine V_iconst (pc := 16) (v := (-1 : Int32)) dX11_feed_16 (by decide) ?_
    cases e
    exact V_iret (pc := 17) dX11_feed_17 hF
def F_X11_feed (v0 : Nat) (v1 : Int32) (v2 : Int32) (v3 : Int32) (v4 : Int32) (v5 : Int32) (h : Hp) : Option (Int32 × Hp) := F_X11_feed_b0 v0 v1 v2 v3 v4 v5 h
theorem c_X11_feed {l : Launch} (v0 : Nat) (v1 : Int32) (v2 : Int32) (v3 : Int32) (v4 : Int32) (v5 : Int32) (h : Hp) {r : Int32} {hz : Hp} (e : F_X11_feed v0 v1 v2 v3 v4 v5 h = some (r, hz)) : Ct l yX11_feed M_X11_feed (some .int) 1 [.ref v0, .int v1, .int v2, .int v3, .int v4, .int v5] h 0 0 (some (.int r)) hz :=
  Ct_of rfl rfl (fun q => by cases q) (Nat.le_of_ble_eq_true rfl) (fun x _ hF => V_pick [0, 1, 2, 3, 4, 5] rfl (r_X11_feed_b0 v0 v1 v2 v3 v4 v5 h e hF))
theorem dX11_room_0 : decode cX11_room 0 = .ok (.aload_n 0, 1) := by decide +kernel
theorem dX11_room_1 : decode cX11_room 1 = .ok (.getfield 19, 3) := by decide +kernel
theorem dX11_room_4 : decode cX11_room 4 = .ok (.iload_n 1, 1) := by decide +kernel
theorem dX11_room_5 : decode cX11_room 5 = .ok (.invokevirtual 144, 3) := by decide +kernel
theorem dX11_room_8 : decode cX11_room 8 = .ok (.ifCond .ne 13, 3) := by decide +kernel
theorem dX11_room_11 : decode cX11_room 11 = .ok (.new 113, 3) := by decide +kernel
theorem dX11_room_14 : decode cX11_room 14 = .ok (.dup, 1) := by decide +kernel
theorem dX11_room_15 : decode cX11_room 15 = .ok (.ldc 147, 2) := by decide +kernel
theorem dX11_room_17 : decode cX11_room 17 = .ok (.invokespecial 117, 3) := by decide +kernel
theorem dX11_room_20 : decode cX11_room 20 = .ok (.athrow, 1) := by decide +kernel
theorem dX11_room_21 : decode cX11_room 21 = .ok (.iload_n 2, 1) := by decide +kernel
theorem dX11_room_22 : decode cX11_room 22 = .ok (.tableswitch 119 0 6 #[42, 52, 62, 72, 82, 91, 107], 42) := by decide +kernel
theorem dX11_room_64 : decode cX11_room 64 = .ok (.aload_n 0, 1) := by decide +kernel
theorem dX11_room_65 : decode cX11_room 65 = .ok (.getfield 19, 3) := by decide +kernel
theorem dX11_room_68 : decode cX11_room 68 = .ok (.getfield 149, 3) := by decide +kernel
theorem dX11_room_71 : decode cX11_room 71 = .ok (.iload_n 1, 1) := by decide +kernel
theorem dX11_room_72 : decode cX11_room 72 = .ok (.iaload, 1) := by decide +kernel
theorem dX11_room_73 : decode cX11_room 73 = .ok (.ireturn, 1) := by decide +kernel
theorem dX11_room_74 : decode cX11_room 74 = .ok (.aload_n 0, 1) := by decide +kernel
theorem dX11_room_75 : decode cX11_room 75 = .ok (.getfield 19, 3) := by decide +kernel
theorem dX11_room_78 : decode cX11_room 78 = .ok (.getfield 153, 3) := by decide +kernel
theorem dX11_room_81 : decode cX11_room 81 = .ok (.iload_n 1, 1) := by decide +kernel
theorem dX11_room_82 : decode cX11_room 82 = .ok (.iaload, 1) := by decide +kernel
theorem dX11_room_83 : decode cX11_room 83 = .ok (.ireturn, 1) := by decide +kernel
theorem dX11_room_84 : decode cX11_room 84 = .ok (.aload_n 0, 1) := by decide +kernel
theorem dX11_room_85 : decode cX11_room 85 = .ok (.getfield 19, 3) := by decide +kernel
theorem dX11_room_88 : decode cX11_room 88 = .ok (.getfield 156, 3) := by decide +kernel
theorem dX11_room_91 : decode cX11_room 91 = .ok (.iload_n 1, 1) := by decide +kernel
theorem dX11_room_92 : decode cX11_room 92 = .ok (.iaload, 1) := by decide +kernel
theorem dX11_room_93 : decode cX11_room 93 = .ok (.ireturn, 1) := by decide +kernel
theorem dX11_room_94 : decode cX11_room 94 = .ok (.aload_n 0, 1) := by decide +kernel
theorem dX11_room_95 : decode cX11_room 95 = .ok (.getfield 19, 3) := by decide +kernel
theorem dX11_room_98 : decode cX11_room 98 = .ok (.getfield 159, 3) := by decide +kernel
theorem dX11_room_101 : decode cX11_room 101 = .ok (.iload_n 1, 1) := by decide +kernel
theorem dX11_room_102 : decode cX11_room 102 = .ok (.iaload, 1) := by decide +kernel
theorem dX11_room_103 : decode cX11_room 103 = .ok (.ireturn, 1) := by decide +kernel
theorem dX11_room_104 : decode cX11_room 104 = .ok (.aload_n 0, 1) := by decide +kernel
theorem dX11_room_105 : decode cX11_room 105 = .ok (.getfield 19, 3) := by decide +kernel
theorem dX11_room_108 : decode cX11_room 108 = .ok (.iload_n 1, 1) := by decide +kernel
theorem dX11_room_109 : decode cX11_room 109 = .ok (.invokevirtual 162, 3) := by decide +kernel
theorem dX11_room_112 : decode cX11_room 112 = .ok (.ireturn, 1) := by decide +kernel
theorem dX11_room_113 : decode cX11_room 113 = .ok (.aload_n 0, 1) := by decide +kernel
theorem dX11_room_114 : decode cX11_room 114 = .ok (.getfield 19, 3) := by decide +kernel
theorem dX11_room_117 : decode cX11_room 117 = .ok (.iload_n 1, 1) := by decide +kernel
theorem dX11_room_118 : decode cX11_room 118 = .ok (.aload_n 0, 1) := by decide +kernel
theorem dX11_room_119 : decode cX11_room 119 = .ok (.getfield 19, 3) := by decide +kernel
theorem dX11_room_122 : decode cX11_room 122 = .ok (.getfield 166, 3) := by decide +kernel
theorem dX11_room_125 : decode cX11_room 125 = .ok (.invokevirtual 169, 3) := by decide +kernel
theorem dX11_room_128 : decode cX11_room 128 = .ok (.ireturn, 1) := by decide +kernel
theorem dX11_room_129 : decode cX11_room 129 = .ok (.aload_n 0, 1) := by decide +kernel
theorem dX11_room_130 : decode cX11_room 130 = .ok (.getfield 19, 3) := by decide +kernel
theorem dX11_room_133 : decode cX11_room 133 = .ok (.getfield 173, 3) := by decide +kernel
theorem dX11_room_136 : decode cX11_room 136 = .ok (.iload_n 1, 1) := by decide +kernel
theorem dX11_room_137 : decode cX11_room 137 = .ok (.invokevirtual 177, 3) := by decide +kernel
theorem dX11_room_140 : decode cX11_room 140 = .ok (.ireturn, 1) := by decide +kernel
theorem dX11_room_141 : decode cX11_room 141 = .ok (.new 182, 3) := by decide +kernel
theorem dX11_room_144 : decode cX11_room 144 = .ok (.dup, 1) := by decide +kernel
theorem dX11_room_145 : decode cX11_room 145 = .ok (.ldc 184, 2) := by decide +kernel
theorem dX11_room_147 : decode cX11_room 147 = .ok (.invokespecial 186, 3) := by decide +kernel
theorem dX11_room_150 : decode cX11_room 150 = .ok (.athrow, 1) := by decide +kernel
set_option maxRecDepth 100000 in
def F_X11_room_b0 (v0 : Nat) (v1 : Int32) (v2 : Int32) (h : Hp) : Option ((Int32 ⊕ Nat) × Hp × Nat × Nat) :=
  gd (decide (kd h v0 = 10)) <| ob (zR h v0 1) fun q2 => ob (F_X2_hasRoom q2 v1 h) fun r5 => gd (decide (kd h q2 = 2)) <| (if r5 = 0 then some (.inr 2, h, 1, 6) else (if v2 = (0 : Int32) then ob (zR h v0 1) fun q7 => gd (decide (kd h q7 = 2)) <| ob (zR h q7 1) fun q10 => gd (decide (kd h q10 = 13)) <| gd (ix v1 (zl h q10)) <| some (.inl (zI h q10 (v1).toNatClampNeg), h, 0, 0) else if v2 = (1 : Int32) then ob (zR h v0 1) fun q15 => gd (decide (kd h q15 = 2)) <| ob (zR h q15 2) fun q18 => gd (decide (kd h q18 = 13)) <| gd (ix v1 (zl h q18)) <| some (.inl (zI h q18 (v1).toNatClampNeg), h, 0, 0) else if v2 = (2 : Int32) then ob (zR h v0 1) fun q23 => gd (decide (kd h q23 = 2)) <| ob (zR h q23 3) fun q26 => gd (decide (kd h q26 = 13)) <| gd (ix v1 (zl h q26)) <| some (.inl (zI h q26 (v1).toNatClampNeg), h, 0, 0) else if v2 = (3 : Int32) then ob (zR h v0 1) fun q31 => gd (decide (kd h q31 = 2)) <| ob (zR h q31 4) fun q34 => gd (decide (kd h q34 = 13)) <| gd (ix v1 (zl h q34)) <| some (.inl (zI h q34 (v1).toNatClampNeg), h, 0, 0) else if v2 = (4 : Int32) then ob (zR h v0 1) fun q39 => ob (F_X2_farOf q39 v1 h) fun r42 => gd (decide (kd h q39 = 2)) <| some (.inl r42, h, 0, 0) else if v2 = (5 : Int32) then ob (zR h v0 1) fun q45 => ob (zR h v0 1) fun q47 => gd (decide (kd h q47 = 2)) <| ob (zR h q47 7) fun q50 => ob (F_X2_headsIn q45 v1 q50 h) fun r53 => gd (decide (kd h q45 = 2)) <| some (.inl r53, h, 0, 0) else if v2 = (6 : Int32) then ob (zR h v0 1) fun q56 => gd (decide (kd h q56 = 2)) <| ob (zR h q56 9) fun q59 => ob (F_X8_lyingIn q59 v1 h) fun r62 => gd (decide (kd h q59 = 7)) <| some (.inl r62, h, 0, 0) else some (.inr 3, h, 1, 6)))
set_option maxHeartbeats 4000000 in
set_option maxRecDepth 100000 in
theorem r_X11_room_b0 (v0 : Nat) (v1 : Int32) (v2 : Int32) (h : Hp) {x : Cx} {r : (Int32 ⊕ Nat)} {hz : Hp} {c9 s9 : Nat} (e : F_X11_room_b0 v0 v1 v2 h = some (r, hz, c9, s9)) (hF : FinO M_X11_room x (some .int) r hz) : V M_X11_room x 8 0 [(0, .ref v0), (1, .int v1), (2, .int v2)] [] h c9 s9 := by
  unfold F_X11_room_b0 at e
  refine V_aload_n (pc := 0) (i := 0) dX11_room_0 rfl rfl ?_
  replace e := gd_some e
  obtain ⟨g1, e⟩ := e
  replace e := ob_some e
  obtain ⟨q2, g3, e⟩ := e
  refine V_getR (pc := 1) (ci := 10) (k := 1) (b := q2) dX11_room_1 fl_X11_19 rfl (of_decide_eq_true g1) g3 ?_
  refine V_iload_n (pc := 4) (i := 1) dX11_room_4 rfl rfl ?_
  replace e := ob_some e
  obtain ⟨r5, g4, e⟩ := e
  replace e := gd_some e
  obtain ⟨g6, e⟩ := e
  refine V_callV (pc := 5) (bc := c9) (bs := s9) (mc := 0) (ms := 0) (st := []) (As := [.int v1]) (a := q2) (h' := h) (r := some (.int r5)) dX11_room_5 ml_X11_144 (ci := 2) rfl (of_decide_eq_true g6) rfl rfl (Nat.le_of_ble_eq_true rfl) (d' := 0) (by decide) (c_X2_hasRoom (l := x.2.1) q2 v1 h g4) ?_
  refine V_if_ne (pc := 8) (tgt := 21) dX11_room_8 (by decide) (fun c65 => ?_) (fun c65 => ?_)
  · rw [if_neg c65] at e
    refine V_pick [0, 1, 2] rfl ?_
    refine V_iload_n (pc := 21) (i := 2) dX11_room_21 rfl rfl ?_
    by_cases c14 : v2 = (0 : Int32)
    · rw [if_pos c14] at e
      refine V_tableIn (pc := 22) (tgt := 64) dX11_room_22 (by rw [c14]; decide) (by rw [c14]; decide) (by rw [c14]; rfl) (by decide) ?_
      refine V_pick [0, 1] rfl ?_
      refine V_aload_n (pc := 64) (i := 0) dX11_room_64 rfl rfl ?_
      replace e := ob_some e
      obtain ⟨q7, g8, e⟩ := e
      refine V_getR (pc := 65) (ci := 10) (k := 1) (b := q7) dX11_room_65 fl_X11_19 rfl (of_decide_eq_true g1) g8 ?_
      replace e := gd_some e
      obtain ⟨g9, e⟩ := e
      replace e := ob_some e
      obtain ⟨q10, g11, e⟩ := e
      refine V_getR (pc := 68) (ci := 2) (k := 1) (b := q10) dX11_room_68 fl_X11_149 rfl (of_decide_eq_true g9) g11 ?_
      refine V_iload_n (pc := 71) (i := 1) dX11_room_71 rfl rfl ?_
      replace e := gd_some e
      obtain ⟨g12, e⟩ := e
      replace e := gd_some e
      obtain ⟨g13, e⟩ := e
      refine V_iald (pc := 72) dX11_room_72 (of_decide_eq_true g12) (ix_in g13) ?_
      cases e
      exact V_iret (pc := 73) dX11_room_73 hF
    · rw [if_neg c14] at e
      by_cases c22 : v2 = (1 : Int32)
      · rw [if_pos c22] at e
        refine V_tableIn (pc := 22) (tgt := 74) dX11_room_22 (by rw [c22]; decide) (by rw [c22]; decide) (by rw [c22]; rfl) (by decide) ?_
        refine V_pick [0, 1] rfl ?_
        refine V_aload_n (pc := 74) (i := 0) dX11_room_74 rfl rfl ?_
        replace e := ob_some e
        obtain ⟨q15, g16, e⟩ := e
        refine V_getR (pc := 75) (ci := 10) (k := 1) (b := q15) dX11_room_75 fl_X11_19 rfl (of_decide_eq_true g1) g16 ?_
        replace e := gd_some e
        obtain ⟨g17, e⟩ := e
        replace e := ob_some e
        obtain ⟨q18, g19, e⟩ := e
        refine V_getR (pc := 78) (ci := 2) (k := 2) (b := q18) dX11_room_78 fl_X11_153 rfl (of_decide_eq_true g17) g19 ?_
        refine V_iload_n (pc := 81) (i := 1) dX11_room_81 rfl rfl ?_
        replace e := gd_some e
        obtain ⟨g20, e⟩ := e
        replace e := gd_some e
        obtain ⟨g21, e⟩ := e
        refine V_iald (pc := 82) dX11_room_82 (of_decide_eq_true g20) (ix_in g21) ?_
        cases e
        exact V_iret (pc := 83) dX11_room_83 hF
      · rw [if_neg c22] at e
        by_cases c30 : v2 = (2 : Int32)
        · rw [if_pos c30] at e
          refine V_tableIn (pc := 22) (tgt := 84) dX11_room_22 (by rw [c30]; decide) (by rw [c30]; decide) (by rw [c30]; rfl) (by decide) ?_
          refine V_pick [0, 1] rfl ?_
          refine V_aload_n (pc := 84) (i := 0) dX11_room_84 rfl rfl ?_
          replace e := ob_some e
          obtain ⟨q23, g24, e⟩ := e
          refine V_getR (pc := 85) (ci := 10) (k := 1) (b := q23) dX11_room_85 fl_X11_19 rfl (of_decide_eq_true g1) g24 ?_
          replace e := gd_some e
          obtain ⟨g25, e⟩ := e
          replace e := ob_some e
          obtain ⟨q26, g27, e⟩ := e
          refine V_getR (pc := 88) (ci := 2) (k := 3) (b := q26) dX11_room_88 fl_X11_156 rfl (of_decide_eq_true g25) g27 ?_
          refine V_iload_n (pc := 91) (i := 1) dX11_room_91 rfl rfl ?_
          replace e := gd_some e
          obtain ⟨g28, e⟩ := e
          replace e := gd_some e
          obtain ⟨g29, e⟩ := e
          refine V_iald (pc := 92) dX11_room_92 (of_decide_eq_true g28) (ix_in g29) ?_
          cases e
          exact V_iret (pc := 93) dX11_room_93 hF
        · rw [if_neg c30] at e
          by_cases c38 : v2 = (3 : Int32)
          · rw [if_pos c38] at e
            refine V_tableIn (pc := 22) (tgt := 94) dX11_room_22 (by rw [c38]; decide) (by rw [c38]; decide) (by rw [c38]; rfl) (by decide) ?_
            refine V_pick [0, 1] rfl ?_
            refine V_aload_n (pc := 94) (i := 0) dX11_room_94 rfl rfl ?_
            replace e := ob_some e
            obtain ⟨q31, g32, e⟩ := e
            refine V_getR (pc := 95) (ci := 10) (k := 1) (b := q31) dX11_room_95 fl_X11_19 rfl (of_decide_eq_true g1) g32 ?_
            replace e := gd_some e
            obtain ⟨g33, e⟩ := e
            replace e := ob_some e
            obtain ⟨q34, g35, e⟩ := e
            refine V_getR (pc := 98) (ci := 2) (k := 4) (b := q34) dX11_room_98 fl_X11_159 rfl (of_decide_eq_true g33) g35 ?_
            refine V_iload_n (pc := 101) (i := 1) dX11_room_101 rfl rfl ?_
            replace e := gd_some e
            obtain ⟨g36, e⟩ := e
            replace e := gd_some e
            obtain ⟨g37, e⟩ := e
            refine V_iald (pc := 102) dX11_room_102 (of_decide_eq_true g36) (ix_in g37) ?_
            cases e
            exact V_iret (pc := 103) dX11_room_103 hF
          · rw [if_neg c38] at e
            by_cases c44 : v2 = (4 : Int32)
            · rw [if_pos c44] at e
              refine V_tableIn (pc := 22) (tgt := 104) dX11_room_22 (by rw [c44]; decide) (by rw [c44]; decide) (by rw [c44]; rfl) (by decide) ?_
              refine V_pick [0, 1] rfl ?_
              refine V_aload_n (pc := 104) (i := 0) dX11_room_104 rfl rfl ?_
              replace e := ob_some e
              obtain ⟨q39, g40, e⟩ := e
              refine V_getR (pc := 105) (ci := 10) (k := 1) (b := q39) dX11_room_105 fl_X11_19 rfl (of_decide_eq_true g1) g40 ?_
              refine V_iload_n (pc := 108) (i := 1) dX11_room_108 rfl rfl ?_
              replace e := ob_some e
              obtain ⟨r42, g41, e⟩ := e
              replace e := gd_some e
              obtain ⟨g43, e⟩ := e
              refine V_callV (pc := 109) (bc := c9) (bs := s9) (mc := 0) (ms := 0) (st := []) (As := [.int v1]) (a := q39) (h' := h) (r := some (.int r42)) dX11_room_109 ml_X11_162 (ci := 2) rfl (of_decide_eq_true g43) rfl rfl (Nat.le_of_ble_eq_true rfl) (d' := 1) (by decide) (c_X2_farOf (l := x.2.1) q39 v1 h g41) ?_
              cases e
              exact V_iret (pc := 112) dX11_room_112 hF
            · rw [if_neg c44] at e
              by_cases c55 : v2 = (5 : Int32)
              · rw [if_pos c55] at e
                refine V_tableIn (pc := 22) (tgt := 113) dX11_room_22 (by rw [c55]; decide) (by rw [c55]; decide) (by rw [c55]; rfl) (by decide) ?_
                refine V_pick [0, 1] rfl ?_
                refine V_aload_n (pc := 113) (i := 0) dX11_room_113 rfl rfl ?_
                replace e := ob_some e
                obtain ⟨q45, g46, e⟩ := e
                refine V_getR (pc := 114) (ci := 10) (k := 1) (b := q45) dX11_room_114 fl_X11_19 rfl (of_decide_eq_true g1) g46 ?_
                refine V_iload_n (pc := 117) (i := 1) dX11_room_117 rfl rfl ?_
                refine V_aload_n (pc := 118) (i := 0) dX11_room_118 rfl rfl ?_
                replace e := ob_some e
                obtain ⟨q47, g48, e⟩ := e
                refine V_getR (pc := 119) (ci := 10) (k := 1) (b := q47) dX11_room_119 fl_X11_19 rfl (of_decide_eq_true g1) g48 ?_
                replace e := gd_some e
                obtain ⟨g49, e⟩ := e
                replace e := ob_some e
                obtain ⟨q50, g51, e⟩ := e
                refine V_getR (pc := 122) (ci := 2) (k := 7) (b := q50) dX11_room_122 fl_X11_166 rfl (of_decide_eq_true g49) g51 ?_
                replace e := ob_some e
                obtain ⟨r53, g52, e⟩ := e
                replace e := gd_some e
                obtain ⟨g54, e⟩ := e
                refine V_callV (pc := 125) (bc := c9) (bs := s9) (mc := 0) (ms := 0) (st := []) (As := [.int v1, .ref q50]) (a := q45) (h' := h) (r := some (.int r53)) dX11_room_125 ml_X11_169 (ci := 2) rfl (of_decide_eq_true g54) rfl rfl (Nat.le_of_ble_eq_true rfl) (d' := 0) (by decide) (c_X2_headsIn (l := x.2.1) q45 v1 q50 h g52) ?_
                cases e
                exact V_iret (pc := 128) dX11_room_128 hF
              · rw [if_neg c55] at e
                by_cases c64 : v2 = (6 : Int32)
                · rw [if_pos c64] at e
                  refine V_tableIn (pc := 22) (tgt := 129) dX11_room_22 (by rw [c64]; decide) (by rw [c64]; decide) (by rw [c64]; rfl) (by decide) ?_
                  refine V_pick [0, 1] rfl ?_
                  refine V_aload_n (pc := 129) (i := 0) dX11_room_129 rfl rfl ?_
                  replace e := ob_some e
                  obtain ⟨q56, g57, e⟩ := e
                  refine V_getR (pc := 130) (ci := 10) (k := 1) (b := q56) dX11_room_130 fl_X11_19 rfl (of_decide_eq_true g1) g57 ?_
                  replace e := gd_some e
                  obtain ⟨g58, e⟩ := e
                  replace e := ob_some e
                  obtain ⟨q59, g60, e⟩ := e
                  refine V_getR (pc := 133) (ci := 2) (k := 9) (b := q59) dX11_room_133 fl_X11_173 rfl (of_decide_eq_true g58) g60 ?_
                  refine V_iload_n (pc := 136) (i := 1) dX11_room_136 rfl rfl ?_
                  replace e := ob_some e
                  obtain ⟨r62, g61, e⟩ := e
                  replace e := gd_some e
                  obtain ⟨g63, e⟩ := e
                  refine V_callV (pc := 137) (bc := c9) (bs := s9) (mc := 0) (ms := 0) (st := []) (As := [.int v1]) (a := q59) (h' := h) (r := some (.int r62)) dX11_room_137 ml_X11_177 (ci := 7) rfl (of_decide_eq_true g63) rfl rfl (Nat.le_of_ble_eq_true rfl) (d' := 0) (by decide) (c_X8_lyingIn (l := x.2.1) q59 v1 h g61) ?_
                  cases e
                  exact V_iret (pc := 140) dX11_room_140 hF
                · rw [if_neg c64] at e
                  refine V_tableOut (pc := 22) (tgt := 141) dX11_room_22 (by have q0 := tI_ne c14 (z := 0) (by decide); have q1 := tI_ne c22 (z := 1) (by decide); have q2 := tI_ne c30 (z := 2) (by decide); have q3 := tI_ne c38 (z := 3) (by decide); have q4 := tI_ne c44 (z := 4) (by decide); have q5 := tI_ne c55 (z := 5) (by decide); have q6 := tI_ne c64 (z := 6) (by decide); omega) (by decide) ?_
                  refine V_pick [] rfl ?_
                  cases e
                  exact V_throwN (pc := 141) (L := 147) (j := 30) hF th_X11_182_186 rfl (by decide) (Nat.le_of_ble_eq_true rfl) dX11_room_141 dX11_room_144 (Or.inl ⟨dX11_room_145, rfl⟩) dX11_room_147 dX11_room_150
  · rw [if_pos c65] at e
    refine V_pick [] rfl ?_
    cases e
    exact V_throw (pc := 11) (j := 29) hF th_X11_113_117 rfl (by decide) (Nat.le_of_ble_eq_true rfl) dX11_room_11 dX11_room_14 dX11_room_15 dX11_room_17 dX11_room_20
def F_X11_room (v0 : Nat) (v1 : Int32) (v2 : Int32) (h : Hp) : Option ((Int32 ⊕ Nat) × Hp × Nat × Nat) := F_X11_room_b0 v0 v1 v2 h
theorem c_X11_room {l : Launch} (v0 : Nat) (v1 : Int32) (v2 : Int32) (h : Hp) {r : Int32} {hz : Hp} {c9 s9 : Nat} (e : F_X11_room v0 v1 v2 h = some (.inl r, hz, c9, s9)) : Ct l yX11_room M_X11_room (some .int) 8 [.ref v0, .int v1, .int v2] h c9 s9 (some (.int r)) hz :=
  Ct_of rfl rfl (fun q => by cases q) (Nat.le_of_ble_eq_true rfl) (fun x _ hF => V_pick [0, 1, 2] rfl (r_X11_room_b0 v0 v1 v2 h e hF))
theorem cX_X11_room {l : Launch} (hst : l.stackTraces = false) (v0 : Nat) (v1 : Int32) (v2 : Int32) (h : Hp) {k : Nat} {hz : Hp} {c9 s9 : Nat} (e : F_X11_room v0 v1 v2 h = some (.inr k, hz, c9, s9)) : CtX l yX11_room M_X11_room (some .int) 8 [.ref v0, .int v1, .int v2] h c9 s9 (exN k) hz :=
  CtX_of hst rfl rfl (fun q => by cases q) (Nat.le_of_ble_eq_true rfl) (fun x _ hF => V_pick [0, 1, 2] rfl (r_X11_room_b0 v0 v1 v2 h e hF))

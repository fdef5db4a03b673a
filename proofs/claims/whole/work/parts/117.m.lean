theorem dX2_init_0 : decode cX2_init 0 = .ok (.aload_n 0, 1) := by decide +kernel
theorem dX2_init_1 : decode cX2_init 1 = .ok (.invokespecial 3, 3) := by decide +kernel
theorem dX2_init_4 : decode cX2_init 4 = .ok (.aload_n 0, 1) := by decide +kernel
theorem dX2_init_5 : decode cX2_init 5 = .ok (.iconst 0, 1) := by decide +kernel
theorem dX2_init_6 : decode cX2_init 6 = .ok (.putfield 9, 3) := by decide +kernel
theorem dX2_init_9 : decode cX2_init 9 = .ok (.aload_n 0, 1) := by decide +kernel
theorem dX2_init_10 : decode cX2_init 10 = .ok (.bipush 8, 2) := by decide +kernel
theorem dX2_init_12 : decode cX2_init 12 = .ok (.newarray .int, 2) := by decide +kernel
theorem dX2_init_14 : decode cX2_init 14 = .ok (.putfield 15, 3) := by decide +kernel
theorem dX2_init_17 : decode cX2_init 17 = .ok (.aload_n 0, 1) := by decide +kernel
theorem dX2_init_18 : decode cX2_init 18 = .ok (.bipush 8, 2) := by decide +kernel
theorem dX2_init_20 : decode cX2_init 20 = .ok (.newarray .int, 2) := by decide +kernel
theorem dX2_init_22 : decode cX2_init 22 = .ok (.putfield 19, 3) := by decide +kernel
theorem dX2_init_25 : decode cX2_init 25 = .ok (.aload_n 0, 1) := by decide +kernel
theorem dX2_init_26 : decode cX2_init 26 = .ok (.bipush 8, 2) := by decide +kernel
theorem dX2_init_28 : decode cX2_init 28 = .ok (.newarray .int, 2) := by decide +kernel
theorem dX2_init_30 : decode cX2_init 30 = .ok (.putfield 22, 3) := by decide +kernel
theorem dX2_init_33 : decode cX2_init 33 = .ok (.aload_n 0, 1) := by decide +kernel
theorem dX2_init_34 : decode cX2_init 34 = .ok (.bipush 8, 2) := by decide +kernel
theorem dX2_init_36 : decode cX2_init 36 = .ok (.newarray .int, 2) := by decide +kernel
theorem dX2_init_38 : decode cX2_init 38 = .ok (.putfield 25, 3) := by decide +kernel
theorem dX2_init_41 : decode cX2_init 41 = .ok (.aload_n 0, 1) := by decide +kernel
theorem dX2_init_42 : decode cX2_init 42 = .ok (.iconst 0, 1) := by decide +kernel
theorem dX2_init_43 : decode cX2_init 43 = .ok (.putfield 28, 3) := by decide +kernel
theorem dX2_init_46 : decode cX2_init 46 = .ok (.aload_n 0, 1) := by decide +kernel
theorem dX2_init_47 : decode cX2_init 47 = .ok (.iconst 5, 1) := by decide +kernel
theorem dX2_init_48 : decode cX2_init 48 = .ok (.newarray .int, 2) := by decide +kernel
theorem dX2_init_50 : decode cX2_init 50 = .ok (.putfield 31, 3) := by decide +kernel
theorem dX2_init_53 : decode cX2_init 53 = .ok (.aload_n 0, 1) := by decide +kernel
theorem dX2_init_54 : decode cX2_init 54 = .ok (.iconst 5, 1) := by decide +kernel
theorem dX2_init_55 : decode cX2_init 55 = .ok (.newarray .int, 2) := by decide +kernel
theorem dX2_init_57 : decode cX2_init 57 = .ok (.putfield 34, 3) := by decide +kernel
theorem dX2_init_60 : decode cX2_init 60 = .ok (.aload_n 0, 1) := by decide +kernel
theorem dX2_init_61 : decode cX2_init 61 = .ok (.iconst 5, 1) := by decide +kernel
theorem dX2_init_62 : decode cX2_init 62 = .ok (.anewarray 37, 3) := by decide +kernel
theorem dX2_init_65 : decode cX2_init 65 = .ok (.putfield 39, 3) := by decide +kernel
theorem dX2_init_68 : decode cX2_init 68 = .ok (.aload_n 0, 1) := by decide +kernel
theorem dX2_init_69 : decode cX2_init 69 = .ok (.new 43, 3) := by decide +kernel
theorem dX2_init_72 : decode cX2_init 72 = .ok (.dup, 1) := by decide +kernel
theorem dX2_init_73 : decode cX2_init 73 = .ok (.invokespecial 45, 3) := by decide +kernel
theorem dX2_init_76 : decode cX2_init 76 = .ok (.putfield 46, 3) := by decide +kernel
theorem dX2_init_79 : decode cX2_init 79 = .ok (.aload_n 0, 1) := by decide +kernel
theorem dX2_init_80 : decode cX2_init 80 = .ok (.iconst 0, 1) := by decide +kernel
theorem dX2_init_81 : decode cX2_init 81 = .ok (.putfield 50, 3) := by decide +kernel
theorem dX2_init_84 : decode cX2_init 84 = .ok (.aload_n 0, 1) := by decide +kernel
theorem dX2_init_85 : decode cX2_init 85 = .ok (.iconst 0, 1) := by decide +kernel
theorem dX2_init_86 : decode cX2_init 86 = .ok (.putfield 53, 3) := by decide +kernel
theorem dX2_init_89 : decode cX2_init 89 = .ok (.aload_n 0, 1) := by decide +kernel
theorem dX2_init_90 : decode cX2_init 90 = .ok (.sipush 1000, 3) := by decide +kernel
theorem dX2_init_93 : decode cX2_init 93 = .ok (.putfield 56, 3) := by decide +kernel
theorem dX2_init_96 : decode cX2_init 96 = .ok (.aload_n 0, 1) := by decide +kernel
theorem dX2_init_97 : decode cX2_init 97 = .ok (.sipush 2000, 3) := by decide +kernel
theorem dX2_init_100 : decode cX2_init 100 = .ok (.putfield 59, 3) := by decide +kernel
theorem dX2_init_103 : decode cX2_init 103 = .ok (.aload_n 0, 1) := by decide +kernel
theorem dX2_init_104 : decode cX2_init 104 = .ok (.iconst 0, 1) := by decide +kernel
theorem dX2_init_105 : decode cX2_init 105 = .ok (.putfield 62, 3) := by decide +kernel
theorem dX2_init_108 : decode cX2_init 108 = .ok (.aload_n 0, 1) := by decide +kernel
theorem dX2_init_109 : decode cX2_init 109 = .ok (.iconst 1, 1) := by decide +kernel
theorem dX2_init_110 : decode cX2_init 110 = .ok (.putfield 65, 3) := by decide +kernel
theorem dX2_init_113 : decode cX2_init 113 = .ok (.aload_n 0, 1) := by decide +kernel
theorem dX2_init_114 : decode cX2_init 114 = .ok (.new 68, 3) := by decide +kernel
theorem dX2_init_117 : decode cX2_init 117 = .ok (.dup, 1) := by decide +kernel
theorem dX2_init_118 : decode cX2_init 118 = .ok (.invokespecial 70, 3) := by decide +kernel
theorem dX2_init_121 : decode cX2_init 121 = .ok (.putfield 71, 3) := by decide +kernel
theorem dX2_init_124 : decode cX2_init 124 = .ok (.aload_n 0, 1) := by decide +kernel
theorem dX2_init_125 : decode cX2_init 125 = .ok (.iconst 0, 1) := by decide +kernel
theorem dX2_init_126 : decode cX2_init 126 = .ok (.putfield 75, 3) := by decide +kernel
theorem dX2_init_129 : decode cX2_init 129 = .ok (.aload_n 0, 1) := by decide +kernel
theorem dX2_init_130 : decode cX2_init 130 = .ok (.bipush 8, 2) := by decide +kernel
theorem dX2_init_132 : decode cX2_init 132 = .ok (.newarray .int, 2) := by decide +kernel
theorem dX2_init_134 : decode cX2_init 134 = .ok (.putfield 78, 3) := by decide +kernel
theorem dX2_init_137 : decode cX2_init 137 = .ok (.aload_n 0, 1) := by decide +kernel
theorem dX2_init_138 : decode cX2_init 138 = .ok (.bipush 8, 2) := by decide +kernel
theorem dX2_init_140 : decode cX2_init 140 = .ok (.newarray .int, 2) := by decide +kernel
theorem dX2_init_142 : decode cX2_init 142 = .ok (.putfield 81, 3) := by decide +kernel
theorem dX2_init_145 : decode cX2_init 145 = .ok (.iconst 0, 1) := by decide +kernel
theorem dX2_init_146 : decode cX2_init 146 = .ok (.istore_n 1, 1) := by decide +kernel
theorem dX2_init_147 : decode cX2_init 147 = .ok (.iload_n 1, 1) := by decide +kernel
theorem dX2_init_148 : decode cX2_init 148 = .ok (.iconst 5, 1) := by decide +kernel
theorem dX2_init_149 : decode cX2_init 149 = .ok (.if_icmp .ge 22, 3) := by decide +kernel
theorem dX2_init_152 : decode cX2_init 152 = .ok (.aload_n 0, 1) := by decide +kernel
theorem dX2_init_153 : decode cX2_init 153 = .ok (.getfield 39, 3) := by decide +kernel
theorem dX2_init_156 : decode cX2_init 156 = .ok (.iload_n 1, 1) := by decide +kernel
theorem dX2_init_157 : decode cX2_init 157 = .ok (.new 37, 3) := by decide +kernel
theorem dX2_init_160 : decode cX2_init 160 = .ok (.dup, 1) := by decide +kernel
theorem dX2_init_161 : decode cX2_init 161 = .ok (.invokespecial 84, 3) := by decide +kernel
theorem dX2_init_164 : decode cX2_init 164 = .ok (.aastore, 1) := by decide +kernel
theorem dX2_init_165 : decode cX2_init 165 = .ok (.iinc 1 1, 3) := by decide +kernel
theorem dX2_init_168 : decode cX2_init 168 = .ok (.goto (-21), 3) := by decide +kernel
theorem dX2_init_171 : decode cX2_init 171 = .ok (.return_, 1) := by decide +kernel
set_option maxRecDepth 100000 in
def F_X2_init_b0 (v0 : Nat) (h : Hp) : Option (Unit × Hp × Nat × Nat) :=
  gd (decide (kd h v0 = 2)) <| ob (some (zN (setI h v0 0 (0 : Int32)))) fun q2 => ac 1 ((8 : Int32)).toNatClampNeg <| ob (some (zN (setR (alloc (setI h v0 0 (0 : Int32)) 13 ((8 : Int32)).toNatClampNeg) v0 1 (some q2)))) fun q6 => ac 1 ((8 : Int32)).toNatClampNeg <| ob (some (alloc (setR (alloc (setI h v0 0 (0 : Int32)) 13 ((8 : Int32)).toNatClampNeg) v0 1 (some q2)) 13 ((8 : Int32)).toNatClampNeg)) fun h10 => ob (some (zN (setR h10 v0 2 (some q6)))) fun q15 => ac 1 ((8 : Int32)).toNatClampNeg <| ob (some (zN (setR (alloc (setR h10 v0 2 (some q6)) 13 ((8 : Int32)).toNatClampNeg) v0 3 (some q15)))) fun q19 => ac 1 ((8 : Int32)).toNatClampNeg <| ob (some (alloc (setR (alloc (setR h10 v0 2 (some q6)) 13 ((8 : Int32)).toNatClampNeg) v0 3 (some q15)) 13 ((8 : Int32)).toNatClampNeg)) fun h23 => ob (some (zN (setI (setR h23 v0 4 (some q19)) v0 5 (0 : Int32)))) fun q30 => ac 1 ((5 : Int32)).toNatClampNeg <| ob (some (zN (setR (alloc (setI (setR h23 v0 4 (some q19)) v0 5 (0 : Int32)) 13 ((5 : Int32)).toNatClampNeg) v0 6 (some q30)))) fun q34 => ac 1 ((5 : Int32)).toNatClampNeg <| ob (some (alloc (setR (alloc (setI (setR h23 v0 4 (some q19)) v0 5 (0 : Int32)) 13 ((5 : Int32)).toNatClampNeg) v0 6 (some q30)) 13 ((5 : Int32)).toNatClampNeg)) fun h38 => ob (some (zN (setR h38 v0 7 (some q34)))) fun q47 => ac 1 ((5 : Int32)).toNatClampNeg <| ob (some (zN (setR (alloc (setR h38 v0 7 (some q34)) 15 ((5 : Int32)).toNatClampNeg) v0 8 (some q47)))) fun q51 => ac 1 4 <| ob4 (F_X8_init q51 (alloc (setR (alloc (setR h38 v0 7 (some q34)) 15 ((5 : Int32)).toNatClampNeg) v0 8 (some q47)) 7 0)) fun _ h57 n58 n59 => ac n58 n59 <| gd (decide (kd h57 v0 = 2)) <| ob (some (setI (setI (setI (setI (setR h57 v0 9 (some q51)) v0 10 (0 : Int32)) v0 11 (0 : Int32)) v0 12 (1000 : Int32)) v0 13 (2000 : Int32))) fun h63 => ob (some (zN (setI (setI h63 v0 14 (0 : Int32)) v0 15 (1 : Int32)))) fun q66 => ac 1 4 <| ob4 (F_X0_init q66 (alloc (setI (setI h63 v0 14 (0 : Int32)) v0 15 (1 : Int32)) 0 0)) fun _ h72 n73 n74 => ac n73 n74 <| gd (decide (kd h72 v0 = 2)) <| ob (some (zN (setI (setR h72 v0 16 (some q66)) v0 17 (0 : Int32)))) fun q78 => ac 1 ((8 : Int32)).toNatClampNeg <| ob (some (zN (setR (alloc (setI (setR h72 v0 16 (some q66)) v0 17 (0 : Int32)) 13 ((8 : Int32)).toNatClampNeg) v0 18 (some q78)))) fun q82 => ac 1 ((8 : Int32)).toNatClampNeg <| ob (some (alloc (setR (alloc (setI (setR h72 v0 16 (some q66)) v0 17 (0 : Int32)) 13 ((8 : Int32)).toNatClampNeg) v0 18 (some q78)) 13 ((8 : Int32)).toNatClampNeg)) fun h86 => ob (zR (setR h86 v0 19 (some q82)) v0 8) fun q91 => ob (some (zN (setR h86 v0 19 (some q82)))) fun q93 => ac 1 4 <| ob4 (F_X10_init q93 (alloc (setR h86 v0 19 (some q82)) 9 0)) fun _ h99 n100 n101 => ac n100 n101 <| gd (decide (kd h99 q91 = 15)) <| gd (decide (kd h99 q93 = 9)) <| gd (ix (0 : Int32) (zl h99 q91)) <| gd (decide (kd (setR h99 q91 ((0 : Int32)).toNatClampNeg (some q93)) v0 = 2)) <| ob (zR (setR h99 q91 ((0 : Int32)).toNatClampNeg (some q93)) v0 8) fun q108 => ob (some (zN (setR h99 q91 ((0 : Int32)).toNatClampNeg (some q93)))) fun q110 => ac 1 4 <| ob4 (F_X10_init q110 (alloc (setR h99 q91 ((0 : Int32)).toNatClampNeg (some q93)) 9 0)) fun _ h116 n117 n118 => ac n117 n118 <| gd (decide (kd h116 q108 = 15)) <| gd (decide (kd h116 q110 = 9)) <| gd (ix (1 : Int32) (zl h116 q108)) <| gd (decide (kd (setR h116 q108 ((1 : Int32)).toNatClampNeg (some q110)) v0 = 2)) <| ob (zR (setR h116 q108 ((1 : Int32)).toNatClampNeg (some q110)) v0 8) fun q125 => ob (some (zN (setR h116 q108 ((1 : Int32)).toNatClampNeg (some q110)))) fun q127 => ac 1 4 <| ob4 (F_X10_init q127 (alloc (setR h116 q108 ((1 : Int32)).toNatClampNeg (some q110)) 9 0)) fun _ h133 n134 n135 => ac n134 n135 <| gd (decide (kd h133 q125 = 15)) <| gd (decide (kd h133 q127 = 9)) <| gd (ix (2 : Int32) (zl h133 q125)) <| gd (decide (kd (setR h133 q125 ((2 : Int32)).toNatClampNeg (some q127)) v0 = 2)) <| ob (zR (setR h133 q125 ((2 : Int32)).toNatClampNeg (some q127)) v0 8) fun q142 => ob (some (zN (setR h133 q125 ((2 : Int32)).toNatClampNeg (some q127)))) fun q144 => ac 1 4 <| ob4 (F_X10_init q144 (alloc (setR h133 q125 ((2 : Int32)).toNatClampNeg (some q127)) 9 0)) fun _ h150 n151 n152 => ac n151 n152 <| gd (decide (kd h150 q142 = 15)) <| gd (decide (kd h150 q144 = 9)) <| gd (ix (3 : Int32) (zl h150 q142)) <| gd (decide (kd (setR h150 q142 ((3 : Int32)).toNatClampNeg (some q144)) v0 = 2)) <| ob (zR (setR h150 q142 ((3 : Int32)).toNatClampNeg (some q144)) v0 8) fun q159 => ob (some (zN (setR h150 q142 ((3 : Int32)).toNatClampNeg (some q144)))) fun q161 => ac 1 4 <| ob4 (F_X10_init q161 (alloc (setR h150 q142 ((3 : Int32)).toNatClampNeg (some q144)) 9 0)) fun _ h167 n168 n169 => ac n168 n169 <| gd (decide (kd h167 q159 = 15)) <| gd (decide (kd h167 q161 = 9)) <| gd (ix (4 : Int32) (zl h167 q159)) <| some ((), setR h167 q159 ((4 : Int32)).toNatClampNeg (some q161), 0, 0)
set_option maxHeartbeats 4000000 in
set_option maxRecDepth 100000 in
theorem r_X2_init_b0 (v0 : Nat) (h : Hp) {x : Cx} {r : Unit} {hz : Hp} {c9 s9 : Nat} (e : F_X2_init_b0 v0 h = some (r, hz, c9, s9)) (hF : Fin9 M_X2_init x none none hz) : V M_X2_init x 3 0 [(0, .ref v0)] [] h c9 s9 := by
  unfold F_X2_init_b0 at e
  refine V_aload_n (pc := 0) (i := 0) dX2_init_0 rfl rfl ?_
  refine V_objI (pc := 1) dX2_init_1 wo_X2_3 (by decide) (Nat.le_of_ble_eq_true rfl) ?_
  refine V_aload_n (pc := 4) (i := 0) dX2_init_4 rfl rfl ?_
  refine V_iconst (pc := 5) (v := (0 : Int32)) dX2_init_5 (by decide) ?_
  replace e := gd_some e
  obtain ⟨g1, e⟩ := e
  refine V_putI (pc := 6) (ci := 2) (k := 0) dX2_init_6 fp_X2_9 rfl (of_decide_eq_true g1) ?_
  refine V_aload_n (pc := 9) (i := 0) dX2_init_9 rfl rfl ?_
  refine V_bipush (pc := 10) (v := (8 : Int32)) dX2_init_10 (by decide) ?_
  replace e := ob_some e
  obtain ⟨q2, g3, e⟩ := e
  replace e := ac_some e
  obtain ⟨n4, n5, e, hc9, hs9⟩ := e
  rw [hc9, hs9]
  clear hc9 hs9
  refine V_newIQ (pc := 12) (n := (8 : Int32)) dX2_init_12 wa_int (by decide) (by decide) (q := q2) (bc := n4) (bs := n5) (Option.some.inj g3) ?_
  refine V_putRF (pc := 14) (ci := 2) (k := 1) dX2_init_14 fp_X2_15 rfl (kd_old (kd_sI (of_decide_eq_true g1)) (by decide)) (fun _ => ⟨rfl, rfl⟩) rfl ?_
  refine V_aload_n (pc := 17) (i := 0) dX2_init_17 rfl rfl ?_
  refine V_bipush (pc := 18) (v := (8 : Int32)) dX2_init_18 (by decide) ?_
  replace e := ob_some e
  obtain ⟨q6, g7, e⟩ := e
  replace e := ac_some e
  obtain ⟨n8, n9, e, hc9, hs9⟩ := e
  rw [hc9, hs9]
  clear hc9 hs9
  refine V_newIQ (pc := 20) (n := (8 : Int32)) dX2_init_20 wa_int (by decide) (by decide) (q := q6) (bc := n8) (bs := n9) (Option.some.inj g7) ?_
  replace e := ob_some e
  obtain ⟨h10, g11, e⟩ := e
  refine V_hp (Option.some.inj g11) ?_
  have k12 : kd h10 v0 = 2 := kd_eq (h := (alloc (setR (alloc (setI h v0 0 (0 : Int32)) 13 ((8 : Int32)).toNatClampNeg) v0 1 (some q2)) 13 ((8 : Int32)).toNatClampNeg)) (Option.some.inj g11) (kd_old (kd_sR (kd_old (kd_sI (of_decide_eq_true g1)) (by decide))) (by decide))
  have k13 : kd h10 q2 = 13 := kd_eq (h := (alloc (setR (alloc (setI h v0 0 (0 : Int32)) 13 ((8 : Int32)).toNatClampNeg) v0 1 (some q2)) 13 ((8 : Int32)).toNatClampNeg)) (Option.some.inj g11) (kd_old (kd_sR (kd_newq (Option.some.inj g3))) (by decide))
  have k14 : kd h10 q6 = 13 := kd_eq (h := (alloc (setR (alloc (setI h v0 0 (0 : Int32)) 13 ((8 : Int32)).toNatClampNeg) v0 1 (some q2)) 13 ((8 : Int32)).toNatClampNeg)) (Option.some.inj g11) (kd_newq (Option.some.inj g7))
  refine V_putRF (pc := 22) (ci := 2) (k := 2) dX2_init_22 fp_X2_19 rfl k12 (fun _ => ⟨rfl, rfl⟩) rfl ?_
  refine V_aload_n (pc := 25) (i := 0) dX2_init_25 rfl rfl ?_
  refine V_bipush (pc := 26) (v := (8 : Int32)) dX2_init_26 (by decide) ?_
  replace e := ob_some e
  obtain ⟨q15, g16, e⟩ := e
  replace e := ac_some e
  obtain ⟨n17, n18, e, hc9, hs9⟩ := e
  rw [hc9, hs9]
  clear hc9 hs9
  refine V_newIQ (pc := 28) (n := (8 : Int32)) dX2_init_28 wa_int (by decide) (by decide) (q := q15) (bc := n17) (bs := n18) (Option.some.inj g16) ?_
  refine V_putRF (pc := 30) (ci := 2) (k := 3) dX2_init_30 fp_X2_22 rfl (kd_old (kd_sR k12) (by decide)) (fun _ => ⟨rfl, rfl⟩) rfl ?_
  refine V_aload_n (pc := 33) (i := 0) dX2_init_33 rfl rfl ?_
  refine V_bipush (pc := 34) (v := (8 : Int32)) dX2_init_34 (by decide) ?_
  replace e := ob_some e
  obtain ⟨q19, g20, e⟩ := e
  replace e := ac_some e
  obtain ⟨n21, n22, e, hc9, hs9⟩ := e
  rw [hc9, hs9]
  clear hc9 hs9
  refine V_newIQ (pc := 36) (n := (8 : Int32)) dX2_init_36 wa_int (by decide) (by decide) (q := q19) (bc := n21) (bs := n22) (Option.some.inj g20) ?_
  replace e := ob_some e
  obtain ⟨h23, g24, e⟩ := e
  refine V_hp (Option.some.inj g24) ?_
  have k25 : kd h23 v0 = 2 := kd_eq (h := (alloc (setR (alloc (setR h10 v0 2 (some q6)) 13 ((8 : Int32)).toNatClampNeg) v0 3 (some q15)) 13 ((8 : Int32)).toNatClampNeg)) (Option.some.inj g24) (kd_old (kd_sR (kd_old (kd_sR k12) (by decide))) (by decide))
  have k26 : kd h23 q2 = 13 := kd_eq (h := (alloc (setR (alloc (setR h10 v0 2 (some q6)) 13 ((8 : Int32)).toNatClampNeg) v0 3 (some q15)) 13 ((8 : Int32)).toNatClampNeg)) (Option.some.inj g24) (kd_old (kd_sR (kd_old (kd_sR k13) (by decide))) (by decide))
  have k27 : kd h23 q6 = 13 := kd_eq (h := (alloc (setR (alloc (setR h10 v0 2 (some q6)) 13 ((8 : Int32)).toNatClampNeg) v0 3 (some q15)) 13 ((8 : Int32)).toNatClampNeg)) (Option.some.inj g24) (kd_old (kd_sR (kd_old (kd_sR k14) (by decide))) (by decide))
  have k28 : kd h23 q15 = 13 := kd_eq (h := (alloc (setR (alloc (setR h10 v0 2 (some q6)) 13 ((8 : Int32)).toNatClampNeg) v0 3 (some q15)) 13 ((8 : Int32)).toNatClampNeg)) (Option.some.inj g24) (kd_old (kd_sR (kd_newq (Option.some.inj g16))) (by decide))
  have k29 : kd h23 q19 = 13 := kd_eq (h := (alloc (setR (alloc (setR h10 v0 2 (some q6)) 13 ((8 : Int32)).toNatClampNeg) v0 3 (some q15)) 13 ((8 : Int32)).toNatClampNeg)) (Option.some.inj g24) (kd_newq (Option.some.inj g20))
  refine V_putRF (pc := 38) (ci := 2) (k := 4) dX2_init_38 fp_X2_25 rfl k25 (fun _ => ⟨rfl, rfl⟩) rfl ?_
  refine V_aload_n (pc := 41) (i := 0) dX2_init_41 rfl rfl ?_
  refine V_iconst (pc := 42) (v := (0 : Int32)) dX2_init_42 (by decide) ?_
  refine V_putI (pc := 43) (ci := 2) (k := 5) dX2_init_43 fp_X2_28 rfl (kd_sR k25) ?_
  refine V_aload_n (pc := 46) (i := 0) dX2_init_46 rfl rfl ?_
  refine V_iconst (pc := 47) (v := (5 : Int32)) dX2_init_47 (by decide) ?_
  replace e := ob_some e
  obtain ⟨q30, g31, e⟩ := e
  replace e := ac_some e
  obtain ⟨n32, n33, e, hc9, hs9⟩ := e
  rw [hc9, hs9]
  clear hc9 hs9
  refine V_newIQ (pc := 48) (n := (5 : Int32)) dX2_init_48 wa_int (by decide) (by decide) (q := q30) (bc := n32) (bs := n33) (Option.some.inj g31) ?_
  refine V_putRF (pc := 50) (ci := 2) (k := 6) dX2_init_50 fp_X2_31 rfl (kd_old (kd_sI (kd_sR k25)) (by decide)) (fun _ => ⟨rfl, rfl⟩) rfl ?_
  refine V_aload_n (pc := 53) (i := 0) dX2_init_53 rfl rfl ?_
  refine V_iconst (pc := 54) (v := (5 : Int32)) dX2_init_54 (by decide) ?_
  replace e := ob_some e
  obtain ⟨q34, g35, e⟩ := e
  replace e := ac_some e
  obtain ⟨n36, n37, e, hc9, hs9⟩ := e
  rw [hc9, hs9]
  clear hc9 hs9
  refine V_newIQ (pc := 55) (n := (5 : Int32)) dX2_init_55 wa_int (by decide) (by decide) (q := q34) (bc := n36) (bs := n37) (Option.some.inj g35) ?_
  replace e := ob_some e
  obtain ⟨h38, g39, e⟩ := e
  refine V_hp (Option.some.inj g39) ?_
  have k40 : kd h38 v0 = 2 := kd_eq (h := (alloc (setR (alloc (setI (setR h23 v0 4 (some q19)) v0 5 (0 : Int32)) 13 ((5 : Int32)).toNatClampNeg) v0 6 (some q30)) 13 ((5 : Int32)).toNatClampNeg)) (Option.some.inj g39) (kd_old (kd_sR (kd_old (kd_sI (kd_sR k25)) (by decide))) (by decide))
  have k41 : kd h38 q2 = 13 := kd_eq (h := (alloc (setR (alloc (setI (setR h23 v0 4 (some q19)) v0 5 (0 : Int32)) 13 ((5 : Int32)).toNatClampNeg) v0 6 (some q30)) 13 ((5 : Int32)).toNatClampNeg)) (Option.some.inj g39) (kd_old (kd_sR (kd_old (kd_sI (kd_sR k26)) (by decide))) (by decide))
  have k42 : kd h38 q6 = 13 := kd_eq (h := (alloc (setR (alloc (setI (setR h23 v0 4 (some q19)) v0 5 (0 : Int32)) 13 ((5 : Int32)).toNatClampNeg) v0 6 (some q30)) 13 ((5 : Int32)).toNatClampNeg)) (Option.some.inj g39) (kd_old (kd_sR (kd_old (kd_sI (kd_sR k27)) (by decide))) (by decide))
  have k43 : kd h38 q15 = 13 := kd_eq (h := (alloc (setR (alloc (setI (setR h23 v0 4 (some q19)) v0 5 (0 : Int32)) 13 ((5 : Int32)).toNatClampNeg) v0 6 (some q30)) 13 ((5 : Int32)).toNatClampNeg)) (Option.some.inj g39) (kd_old (kd_sR (kd_old (kd_sI (kd_sR k28)) (by decide))) (by decide))
  have k44 : kd h38 q19 = 13 := kd_eq (h := (alloc (setR (alloc (setI (setR h23 v0 4 (some q19)) v0 5 (0 : Int32)) 13 ((5 : Int32)).toNatClampNeg) v0 6 (some q30)) 13 ((5 : Int32)).toNatClampNeg)) (Option.some.inj g39) (kd_old (kd_sR (kd_old (kd_sI (kd_sR k29)) (by decide))) (by decide))
  have k45 : kd h38 q30 = 13 := kd_eq (h := (alloc (setR (alloc (setI (setR h23 v0 4 (some q19)) v0 5 (0 : Int32)) 13 ((5 : Int32)).toNatClampNeg) v0 6 (some q30)) 13 ((5 : Int32)).toNatClampNeg)) (Option.some.inj g39) (kd_old (kd_sR (kd_newq (Option.some.inj g31))) (by decide))
  have k46 : kd h38 q34 = 13 := kd_eq (h := (alloc (setR (alloc (setI (setR h23 v0 4 (some q19)) v0 5 (0 : Int32)) 13 ((5 : Int32)).toNatClampNeg) v0 6 (some q30)) 13 ((5 : Int32)).toNatClampNeg)) (Option.some.inj g39) (kd_newq (Option.some.inj g35))
  refine V_putRF (pc := 57) (ci := 2) (k := 7) dX2_init_57 fp_X2_34 rfl k40 (fun _ => ⟨rfl, rfl⟩) rfl ?_
  refine V_aload_n (pc := 60) (i := 0) dX2_init_60 rfl rfl ?_
  refine V_iconst (pc := 61) (v := (5 : Int32)) dX2_init_61 (by decide) ?_
  replace e := ob_some e
  obtain ⟨q47, g48, e⟩ := e
  replace e := ac_some e
  obtain ⟨n49, n50, e, hc9, hs9⟩ := e
  rw [hc9, hs9]
  clear hc9 hs9
  refine V_newW (pc := 62) (n := (5 : Int32)) dX2_init_62 wc_X2_37 (by decide) (by decide) (q := q47) (bc := n49) (bs := n50) (Option.some.inj g48) ?_
  refine V_putRF (pc := 65) (ci := 2) (k := 8) dX2_init_65 fp_X2_39 rfl (kd_old (kd_sR k40) (by decide)) (fun _ => ⟨rfl, rfl⟩) rfl ?_
  refine V_aload_n (pc := 68) (i := 0) dX2_init_68 rfl rfl ?_
  replace e := ob_some e
  obtain ⟨q51, g52, e⟩ := e
  replace e := ac_some e
  obtain ⟨n53, n54, e, hc9, hs9⟩ := e
  rw [hc9, hs9]
  clear hc9 hs9
  refine V_newQ (pc := 69) (ci := 7) dX2_init_69 nl_X2_43 (q := q51) (bc := n53) (bs := n54) (Option.some.inj g52) ?_
  refine V_dup (pc := 72) dX2_init_72 rfl ?_
  replace e := ob4_some e
  obtain ⟨r56, h57, n58, n59, g55, e⟩ := e
  replace e := ac_some e
  obtain ⟨n60, n61, e, hc9, hs9⟩ := e
  rw [hc9, hs9]
  clear hc9 hs9
  refine V_callI (pc := 73) (bc := n60) (bs := n61) (mc := n58) (ms := n59) (st := [.ref q51, .ref v0]) (As := []) (a := q51) (h' := h57) dX2_init_73 ml_X2_45 rfl rfl (Nat.le_of_ble_eq_true rfl) (d' := 1) (by decide) (c_X8_init (l := x.2.1) q51 (alloc (setR (alloc (setR h38 v0 7 (some q34)) 15 ((5 : Int32)).toNatClampNeg) v0 8 (some q47)) 7 0) g55) ?_
  replace e := gd_some e
  obtain ⟨g62, e⟩ := e
  refine V_putRF (pc := 76) (ci := 2) (k := 9) dX2_init_76 fp_X2_46 rfl (of_decide_eq_true g62) (fun _ => ⟨rfl, rfl⟩) rfl ?_
  refine V_aload_n (pc := 79) (i := 0) dX2_init_79 rfl rfl ?_
  refine V_iconst (pc := 80) (v := (0 : Int32)) dX2_init_80 (by decide) ?_
  refine V_putI (pc := 81) (ci := 2) (k := 10) dX2_init_81 fp_X2_50 rfl (kd_sR (of_decide_eq_true g62)) ?_
  refine V_aload_n (pc := 84) (i := 0) dX2_init_84 rfl rfl ?_
  refine V_iconst (pc := 85) (v := (0 : Int32)) dX2_init_85 (by decide) ?_
  refine V_putI (pc := 86) (ci := 2) (k := 11) dX2_init_86 fp_X2_53 rfl (kd_sI (kd_sR (of_decide_eq_true g62))) ?_
  refine V_aload_n (pc := 89) (i := 0) dX2_init_89 rfl rfl ?_
  refine V_sipush (pc := 90) (v := (1000 : Int32)) dX2_init_90 (by decide) ?_
  refine V_putI (pc := 93) (ci := 2) (k := 12) dX2_init_93 fp_X2_56 rfl (kd_sI (kd_sI (kd_sR (of_decide_eq_true g62)))) ?_
  refine V_aload_n (pc := 96) (i := 0) dX2_init_96 rfl rfl ?_
  refine V_sipush (pc := 97) (v := (2000 : Int32)) dX2_init_97 (by decide) ?_
  refine V_putI (pc := 100) (ci := 2) (k := 13) dX2_init_100 fp_X2_59 rfl (kd_sI (kd_sI (kd_sI (kd_sR (of_decide_eq_true g62))))) ?_
  replace e := ob_some e
  obtain ⟨h63, g64, e⟩ := e
  refine V_hp (Option.some.inj g64) ?_
  have k65 : kd h63 v0 = 2 := kd_eq (h := (setI (setI (setI (setI (setR h57 v0 9 (some q51)) v0 10 (0 : Int32)) v0 11 (0 : Int32)) v0 12 (1000 : Int32)) v0 13 (2000 : Int32))) (Option.some.inj g64) (kd_sI (kd_sI (kd_sI (kd_sI (kd_sR (of_decide_eq_true g62))))))
  refine V_aload_n (pc := 103) (i := 0) dX2_init_103 rfl rfl ?_
  refine V_iconst (pc := 104) (v := (0 : Int32)) dX2_init_104 (by decide) ?_
  refine V_putI (pc := 105) (ci := 2) (k := 14) dX2_init_105 fp_X2_62 rfl k65 ?_
  refine V_aload_n (pc := 108) (i := 0) dX2_init_108 rfl rfl ?_
  refine V_iconst (pc := 109) (v := (1 : Int32)) dX2_init_109 (by decide) ?_
  refine V_putI (pc := 110) (ci := 2) (k := 15) dX2_init_110 fp_X2_65 rfl (kd_sI k65) ?_
  refine V_aload_n (pc := 113) (i := 0) dX2_init_113 rfl rfl ?_
  replace e := ob_some e
  obtain ⟨q66, g67, e⟩ := e
  replace e := ac_some e
  obtain ⟨n68, n69, e, hc9, hs9⟩ := e
  rw [hc9, hs9]
  clear hc9 hs9
  refine V_newQ (pc := 114) (ci := 0) dX2_init_114 nl_X2_68 (q := q66) (bc := n68) (bs := n69) (Option.some.inj g67) ?_
  refine V_dup (pc := 117) dX2_init_117 rfl ?_
  replace e := ob4_some e
  obtain ⟨r71, h72, n73, n74, g70, e⟩ := e
  replace e := ac_some e
  obtain ⟨n75, n76, e, hc9, hs9⟩ := e
  rw [hc9, hs9]
  clear hc9 hs9
  refine V_callI (pc := 118) (bc := n75) (bs := n76) (mc := n73) (ms := n74) (st := [.ref q66, .ref v0]) (As := []) (a := q66) (h' := h72) dX2_init_118 ml_X2_70 rfl rfl (Nat.le_of_ble_eq_true rfl) (d' := 2) (by decide) (c_X0_init (l := x.2.1) q66 (alloc (setI (setI h63 v0 14 (0 : Int32)) v0 15 (1 : Int32)) 0 0) g70) ?_
  replace e := gd_some e
  obtain ⟨g77, e⟩ := e
  refine V_putRF (pc := 121) (ci := 2) (k := 16) dX2_init_121 fp_X2_71 rfl (of_decide_eq_true g77) (fun _ => ⟨rfl, rfl⟩) rfl ?_
  refine V_aload_n (pc := 124) (i := 0) dX2_init_124 rfl rfl ?_
  refine V_iconst (pc := 125) (v := (0 : Int32)) dX2_init_125 (by decide) ?_
  refine V_putI (pc := 126) (ci := 2) (k := 17) dX2_init_126 fp_X2_75 rfl (kd_sR (of_decide_eq_true g77)) ?_
  refine V_aload_n (pc := 129) (i := 0) dX2_init_129 rfl rfl ?_
  refine V_bipush (pc := 130) (v := (8 : Int32)) dX2_init_130 (by decide) ?_
  replace e := ob_some e
  obtain ⟨q78, g79, e⟩ := e
  replace e := ac_some e
  obtain ⟨n80, n81, e, hc9, hs9⟩ := e
  rw [hc9, hs9]
  clear hc9 hs9
  refine V_newIQ (pc := 132) (n := (8 : Int32)) dX2_init_132 wa_int (by decide) (by decide) (q := q78) (bc := n80) (bs := n81) (Option.some.inj g79) ?_
  refine V_putRF (pc := 134) (ci := 2) (k := 18) dX2_init_134 fp_X2_78 rfl (kd_old (kd_sI (kd_sR (of_decide_eq_true g77))) (by decide)) (fun _ => ⟨rfl, rfl⟩) rfl ?_
  refine V_aload_n (pc := 137) (i := 0) dX2_init_137 rfl rfl ?_
  refine V_bipush (pc := 138) (v := (8 : Int32)) dX2_init_138 (by decide) ?_
  replace e := ob_some e
  obtain ⟨q82, g83, e⟩ := e
  replace e := ac_some e
  obtain ⟨n84, n85, e, hc9, hs9⟩ := e
  rw [hc9, hs9]
  clear hc9 hs9
  refine V_newIQ (pc := 140) (n := (8 : Int32)) dX2_init_140 wa_int (by decide) (by decide) (q := q82) (bc := n84) (bs := n85) (Option.some.inj g83) ?_
  replace e := ob_some e
  obtain ⟨h86, g87, e⟩ := e
  refine V_hp (Option.some.inj g87) ?_
  have k88 : kd h86 v0 = 2 := kd_eq (h := (alloc (setR (alloc (setI (setR h72 v0 16 (some q66)) v0 17 (0 : Int32)) 13 ((8 : Int32)).toNatClampNeg) v0 18 (some q78)) 13 ((8 : Int32)).toNatClampNeg)) (Option.some.inj g87) (kd_old (kd_sR (kd_old (kd_sI (kd_sR (of_decide_eq_true g77))) (by decide))) (by decide))
  have k89 : kd h86 q78 = 13 := kd_eq (h := (alloc (setR (alloc (setI (setR h72 v0 16 (some q66)) v0 17 (0 : Int32)) 13 ((8 : Int32)).toNatClampNeg) v0 18 (some q78)) 13 ((8 : Int32)).toNatClampNeg)) (Option.some.inj g87) (kd_old (kd_sR (kd_newq (Option.some.inj g79))) (by decide))
  have k90 : kd h86 q82 = 13 := kd_eq (h := (alloc (setR (alloc (setI (setR h72 v0 16 (some q66)) v0 17 (0 : Int32)) 13 ((8 : Int32)).toNatClampNeg) v0 18 (some q78)) 13 ((8 : Int32)).toNatClampNeg)) (Option.some.inj g87) (kd_newq (Option.some.inj g83))
  refine V_putRF (pc := 142) (ci := 2) (k := 19) dX2_init_142 fp_X2_81 rfl k88 (fun _ => ⟨rfl, rfl⟩) rfl ?_
  refine V_iconst (pc := 145) (v := (0 : Int32)) dX2_init_145 (by decide) ?_
  refine V_istore_n (pc := 146) (i := 1) (lv' := [(1, .int (0 : Int32)), (0, .ref v0)]) dX2_init_146 rfl (by decide) rfl ?_
  refine V_pick [1, 0] rfl ?_
  refine V_iload_n (pc := 147) (i := 1) dX2_init_147 rfl rfl ?_
  refine V_iconst (pc := 148) (v := (5 : Int32)) dX2_init_148 (by decide) ?_
  refine V_icmp_ge (pc := 149) (tgt := 171) dX2_init_149 (by decide) (fun q9 => absurd q9 (by decide)) (fun q9 => ?_)
  refine V_pick [0, 1] rfl ?_
  refine V_aload_n (pc := 152) (i := 0) dX2_init_152 rfl rfl ?_
  replace e := ob_some e
  obtain ⟨q91, g92, e⟩ := e
  refine V_getR (pc := 153) (ci := 2) (k := 8) (b := q91) dX2_init_153 fl_X2_39 rfl (kd_sR k88) g92 ?_
  refine V_iload_n (pc := 156) (i := 1) dX2_init_156 rfl rfl ?_
  replace e := ob_some e
  obtain ⟨q93, g94, e⟩ := e
  replace e := ac_some e
  obtain ⟨n95, n96, e, hc9, hs9⟩ := e
  rw [hc9, hs9]
  clear hc9 hs9
  refine V_newQ (pc := 157) (ci := 9) dX2_init_157 nl_X2_37 (q := q93) (bc := n95) (bs := n96) (Option.some.inj g94) ?_
  refine V_dup (pc := 160) dX2_init_160 rfl ?_
  replace e := ob4_some e
  obtain ⟨r98, h99, n100, n101, g97, e⟩ := e
  replace e := ac_some e
  obtain ⟨n102, n103, e, hc9, hs9⟩ := e
  rw [hc9, hs9]
  clear hc9 hs9
  refine V_callI (pc := 161) (bc := n102) (bs := n103) (mc := n100) (ms := n101) (st := [.ref q93, .int (0 : Int32), .ref q91]) (As := []) (a := q93) (h' := h99) dX2_init_161 ml_X2_84 rfl rfl (Nat.le_of_ble_eq_true rfl) (d' := 2) (by decide) (c_X10_init (l := x.2.1) q93 (alloc (setR h86 v0 19 (some q82)) 9 0) g97) ?_
  replace e := gd_some e
  obtain ⟨g104, e⟩ := e
  replace e := gd_some e
  obtain ⟨g105, e⟩ := e
  replace e := gd_some e
  obtain ⟨g106, e⟩ := e
  refine V_aast (pc := 164) dX2_init_164 (of_decide_eq_true g104) (of_decide_eq_true g105) (ix_in g106) ?_
  refine V_iinc (pc := 165) (i := 1) (u := (1 : Int32)) (lv' := [(1, .int (1 : Int32)), (0, .ref v0)]) dX2_init_165 rfl rfl (by decide) rfl ?_
  refine V_goto (pc := 168) (tgt := 147) dX2_init_168 (by decide) ?_
  refine V_pick [1, 0] rfl ?_
  refine V_iload_n (pc := 147) (i := 1) dX2_init_147 rfl rfl ?_
  refine V_iconst (pc := 148) (v := (5 : Int32)) dX2_init_148 (by decide) ?_
  refine V_icmp_ge (pc := 149) (tgt := 171) dX2_init_149 (by decide) (fun q9 => absurd q9 (by decide)) (fun q9 => ?_)
  refine V_pick [0, 1] rfl ?_
  refine V_aload_n (pc := 152) (i := 0) dX2_init_152 rfl rfl ?_
  replace e := gd_some e
  obtain ⟨g107, e⟩ := e
  replace e := ob_some e
  obtain ⟨q108, g109, e⟩ := e
  refine V_getR (pc := 153) (ci := 2) (k := 8) (b := q108) dX2_init_153 fl_X2_39 rfl (of_decide_eq_true g107) g109 ?_
  refine V_iload_n (pc := 156) (i := 1) dX2_init_156 rfl rfl ?_
  replace e := ob_some e
  obtain ⟨q110, g111, e⟩ := e
  replace e := ac_some e
  obtain ⟨n112, n113, e, hc9, hs9⟩ := e
  rw [hc9, hs9]
  clear hc9 hs9
  refine V_newQ (pc := 157) (ci := 9) dX2_init_157 nl_X2_37 (q := q110) (bc := n112) (bs := n113) (Option.some.inj g111) ?_
  refine V_dup (pc := 160) dX2_init_160 rfl ?_
  replace e := ob4_some e
  obtain ⟨r115, h116, n117, n118, g114, e⟩ := e
  replace e := ac_some e
  obtain ⟨n119, n120, e, hc9, hs9⟩ := e
  rw [hc9, hs9]
  clear hc9 hs9
  refine V_callI (pc := 161) (bc := n119) (bs := n120) (mc := n117) (ms := n118) (st := [.ref q110, .int (1 : Int32), .ref q108]) (As := []) (a := q110) (h' := h116) dX2_init_161 ml_X2_84 rfl rfl (Nat.le_of_ble_eq_true rfl) (d' := 2) (by decide) (c_X10_init (l := x.2.1) q110 (alloc (setR h99 q91 ((0 : Int32)).toNatClampNeg (some q93)) 9 0) g114) ?_
  replace e := gd_some e
  obtain ⟨g121, e⟩ := e
  replace e := gd_some e
  obtain ⟨g122, e⟩ := e
  replace e := gd_some e
  obtain ⟨g123, e⟩ := e
  refine V_aast (pc := 164) dX2_init_164 (of_decide_eq_true g121) (of_decide_eq_true g122) (ix_in g123) ?_
  refine V_iinc (pc := 165) (i := 1) (u := (2 : Int32)) (lv' := [(1, .int (2 : Int32)), (0, .ref v0)]) dX2_init_165 rfl rfl (by decide) rfl ?_
  refine V_goto (pc := 168) (tgt := 147) dX2_init_168 (by decide) ?_
  refine V_pick [1, 0] rfl ?_
  refine V_iload_n (pc := 147) (i := 1) dX2_init_147 rfl rfl ?_
  refine V_iconst (pc := 148) (v := (5 : Int32)) dX2_init_148 (by decide) ?_
  refine V_icmp_ge (pc := 149) (tgt := 171) dX2_init_149 (by decide) (fun q9 => absurd q9 (by decide)) (fun q9 => ?_)
  refine V_pick [0, 1] rfl ?_
  refine V_aload_n (pc := 152) (i := 0) dX2_init_152 rfl rfl ?_
  replace e := gd_some e
  obtain ⟨g124, e⟩ := e
  replace e := ob_some e
  obtain ⟨q125, g126, e⟩ := e
  refine V_getR (pc := 153) (ci := 2) (k := 8) (b := q125) dX2_init_153 fl_X2_39 rfl (of_decide_eq_true g124) g126 ?_
  refine V_iload_n (pc := 156) (i := 1) dX2_init_156 rfl rfl ?_
  replace e := ob_some e
  obtain ⟨q127, g128, e⟩ := e
  replace e := ac_some e
  obtain ⟨n129, n130, e, hc9, hs9⟩ := e
  rw [hc9, hs9]
  clear hc9 hs9
  refine V_newQ (pc := 157) (ci := 9) dX2_init_157 nl_X2_37 (q := q127) (bc := n129) (bs := n130) (Option.some.inj g128) ?_
  refine V_dup (pc := 160) dX2_init_160 rfl ?_
  replace e := ob4_some e
  obtain ⟨r132, h133, n134, n135, g131, e⟩ := e
  replace e := ac_some e
  obtain ⟨n136, n137, e, hc9, hs9⟩ := e
  rw [hc9, hs9]
  clear hc9 hs9
  refine V_callI (pc := 161) (bc := n136) (bs := n137) (mc := n134) (ms := n135) (st := [.ref q127, .int (2 : Int32), .ref q125]) (As := []) (a := q127) (h' := h133) dX2_init_161 ml_X2_84 rfl rfl (Nat.le_of_ble_eq_true rfl) (d' := 2) (by decide) (c_X10_init (l := x.2.1) q127 (alloc (setR h116 q108 ((1 : Int32)).toNatClampNeg (some q110)) 9 0) g131) ?_
  replace e := gd_some e
  obtain ⟨g138, e⟩ := e
  replace e := gd_some e
  obtain ⟨g139, e⟩ := e
  replace e := gd_some e
  obtain ⟨g140, e⟩ := e
  refine V_aast (pc := 164) dX2_init_164 (of_decide_eq_true g138) (of_decide_eq_true g139) (ix_in g140) ?_
  refine V_iinc (pc := 165) (i := 1) (u := (3 : Int32)) (lv' := [(1, .int (3 : Int32)), (0, .ref v0)]) dX2_init_165 rfl rfl (by decide) rfl ?_
  refine V_goto (pc := 168) (tgt := 147) dX2_init_168 (by decide) ?_
  refine V_pick [1, 0] rfl ?_
  refine V_iload_n (pc := 147) (i := 1) dX2_init_147 rfl rfl ?_
  refine V_iconst (pc := 148) (v := (5 : Int32)) dX2_init_148 (by decide) ?_
  refine V_icmp_ge (pc := 149) (tgt := 171) dX2_init_149 (by decide) (fun q9 => absurd q9 (by decide)) (fun q9 => ?_)
  refine V_pick [0, 1] rfl ?_
  refine V_aload_n (pc := 152) (i := 0) dX2_init_152 rfl rfl ?_
  replace e := gd_some e
  obtain ⟨g141, e⟩ := e
  replace e := ob_some e
  obtain ⟨q142, g143, e⟩ := e
  refine V_getR (pc := 153) (ci := 2) (k := 8) (b := q142) dX2_init_153 fl_X2_39 rfl (of_decide_eq_true g141) g143 ?_
  refine V_iload_n (pc := 156) (i := 1) dX2_init_156 rfl rfl ?_
  replace e := ob_some e
  obtain ⟨q144, g145, e⟩ := e
  replace e := ac_some e
  obtain ⟨n146, n147, e, hc9, hs9⟩ := e
  rw [hc9, hs9]
  clear hc9 hs9
  refine V_newQ (pc := 157) (ci := 9) dX2_init_157 nl_X2_37 (q := q144) (bc := n146) (bs := n147) (Option.some.inj g145) ?_
  refine V_dup (pc := 160) dX2_init_160 rfl ?_
  replace e := ob4_some e
  obtain ⟨r149, h150, n151, n152, g148, e⟩ := e
  replace e := ac_some e
  obtain ⟨n153, n154, e, hc9, hs9⟩ := e
  rw [hc9, hs9]
  clear hc9 hs9
  refine V_callI (pc := 161) (bc := n153) (bs := n154) (mc := n151) (ms := n152) (st := [.ref q144, .int (3 : Int32), .ref q142]) (As := []) (a := q144) (h' := h150) dX2_init_161 ml_X2_84 rfl rfl (Nat.le_of_ble_eq_true rfl) (d' := 2) (by decide) (c_X10_init (l := x.2.1) q144 (alloc (setR h133 q125 ((2 : Int32)).toNatClampNeg (some q127)) 9 0) g148) ?_
  replace e := gd_some e
  obtain ⟨g155, e⟩ := e
  replace e := gd_some e
  obtain ⟨g156, e⟩ := e
  replace e := gd_some e
  obtain ⟨g157, e⟩ := e
  refine V_aast (pc := 164) dX2_init_164 (of_decide_eq_true g155) (of_decide_eq_true g156) (ix_in g157) ?_
  refine V_iinc (pc := 165) (i := 1) (u := (4 : Int32)) (lv' := [(1, .int (4 : Int32)), (0, .ref v0)]) dX2_init_165 rfl rfl (by decide) rfl ?_
  refine V_goto (pc := 168) (tgt := 147) dX2_init_168 (by decide) ?_
  refine V_pick [1, 0] rfl ?_
  refine V_iload_n (pc := 147) (i := 1) dX2_init_147 rfl rfl ?_
  refine V_iconst (pc := 148) (v := (5 : Int32)) dX2_init_148 (by decide) ?_
  refine V_icmp_ge (pc := 149) (tgt := 171) dX2_init_149 (by decide) (fun q9 => absurd q9 (by decide)) (fun q9 => ?_)
  refine V_pick [0, 1] rfl ?_
  refine V_aload_n (pc := 152) (i := 0) dX2_init_152 rfl rfl ?_
  replace e := gd_some e
  obtain ⟨g158, e⟩ := e
  replace e := ob_some e
  obtain ⟨q159, g160, e⟩ := e
  refine V_getR (pc := 153) (ci := 2) (k := 8) (b := q159) dX2_init_153 fl_X2_39 rfl (of_decide_eq_true g158) g160 ?_
  refine V_iload_n (pc := 156) (i := 1) dX2_init_156 rfl rfl ?_
  replace e := ob_some e
  obtain ⟨q161, g162, e⟩ := e
  replace e := ac_some e
  obtain ⟨n163, n164, e, hc9, hs9⟩ := e
  rw [hc9, hs9]
  clear hc9 hs9
  refine V_newQ (pc := 157) (ci := 9) dX2_init_157 nl_X2_37 (q := q161) (bc := n163) (bs := n164) (Option.some.inj g162) ?_
  refine V_dup (pc := 160) dX2_init_160 rfl ?_
  replace e := ob4_some e
  obtain ⟨r166, h167, n168, n169, g165, e⟩ := e
  replace e := ac_some e
  obtain ⟨n170, n171, e, hc9, hs9⟩ := e
  rw [hc9, hs9]
  clear hc9 hs9
  refine V_callI (pc := 161) (bc := n170) (bs := n171) (mc := n168) (ms := n169) (st := [.ref q161, .int (4 : Int32), .ref q159]) (As := []) (a := q161) (h' := h167) dX2_init_161 ml_X2_84 rfl rfl (Nat.le_of_ble_eq_true rfl) (d' := 2) (by decide) (c_X10_init (l := x.2.1) q161 (alloc (setR h150 q142 ((3 : Int32)).toNatClampNeg (some q144)) 9 0) g165) ?_
  replace e := gd_some e
  obtain ⟨g172, e⟩ := e
  replace e := gd_some e
  obtain ⟨g173, e⟩ := e
  replace e := gd_some e
  obtain ⟨g174, e⟩ := e
  refine V_aast (pc := 164) dX2_init_164 (of_decide_eq_true g172) (of_decide_eq_true g173) (ix_in g174) ?_
  refine V_iinc (pc := 165) (i := 1) (u := (5 : Int32)) (lv' := [(1, .int (5 : Int32)), (0, .ref v0)]) dX2_init_165 rfl rfl (by decide) rfl ?_
  refine V_goto (pc := 168) (tgt := 147) dX2_init_168 (by decide) ?_
  refine V_pick [1, 0] rfl ?_
  refine V_iload_n (pc := 147) (i := 1) dX2_init_147 rfl rfl ?_
  refine V_iconst (pc := 148) (v := (5 : Int32)) dX2_init_148 (by decide) ?_
  refine V_icmp_ge (pc := 149) (tgt := 171) dX2_init_149 (by decide) (fun q9 => ?_) (fun q9 => absurd q9 (by decide))
  refine V_pick [] rfl ?_
  cases e
  exact V_vret (pc := 171) dX2_init_171 hF
def F_X2_init (v0 : Nat) (h : Hp) : Option (Unit × Hp × Nat × Nat) := F_X2_init_b0 v0 h
theorem c_X2_init {l : Launch} (v0 : Nat) (h : Hp) {r : Unit} {hz : Hp} {c9 s9 : Nat} (e : F_X2_init v0 h = some (r, hz, c9, s9)) : Ct l yX2_init M_X2_init none 3 [.ref v0] h c9 s9 none hz :=
  Ct_of rfl rfl (fun _ => rfl) (Nat.le_of_ble_eq_true rfl) (fun x _ hF => V_pick [0] rfl (r_X2_init_b0 v0 h e hF))
theorem dX2_metByAll_0 : decode cX2_metByAll 0 = .ok (.iconst 0, 1) := by decide +kernel
theorem dX2_metByAll_1 : decode cX2_metByAll 1 = .ok (.istore_n 2, 1) := by decide +kernel
theorem dX2_metByAll_2 : decode cX2_metByAll 2 = .ok (.iconst 0, 1) := by decide +kernel
theorem dX2_metByAll_3 : decode cX2_metByAll 3 = .ok (.istore_n 3, 1) := by decide +kernel
theorem dX2_metByAll_4 : decode cX2_metByAll 4 = .ok (.iload_n 3, 1) := by decide +kernel
theorem dX2_metByAll_5 : decode cX2_metByAll 5 = .ok (.aload_n 0, 1) := by decide +kernel
theorem dX2_metByAll_6 : decode cX2_metByAll 6 = .ok (.getfield 28, 3) := by decide +kernel
theorem dX2_metByAll_9 : decode cX2_metByAll 9 = .ok (.if_icmp .ge 24, 3) := by decide +kernel
theorem dX2_metByAll_12 : decode cX2_metByAll 12 = .ok (.iload_n 2, 1) := by decide +kernel
theorem dX2_metByAll_13 : decode cX2_metByAll 13 = .ok (.aload_n 0, 1) := by decide +kernel
theorem dX2_metByAll_14 : decode cX2_metByAll 14 = .ok (.getfield 39, 3) := by decide +kernel
theorem dX2_metByAll_17 : decode cX2_metByAll 17 = .ok (.iload_n 3, 1) := by decide +kernel
theorem dX2_metByAll_18 : decode cX2_metByAll 18 = .ok (.aaload, 1) := by decide +kernel
theorem dX2_metByAll_19 : decode cX2_metByAll 19 = .ok (.aload_n 0, 1) := by decide +kernel
theorem dX2_metByAll_20 : decode cX2_metByAll 20 = .ok (.iload_n 3, 1) := by decide +kernel
theorem dX2_metByAll_21 : decode cX2_metByAll 21 = .ok (.aload_n 1, 1) := by decide +kernel
theorem dX2_metByAll_22 : decode cX2_metByAll 22 = .ok (.invokevirtual 113, 3) := by decide +kernel
theorem dX2_metByAll_25 : decode cX2_metByAll 25 = .ok (.iadd, 1) := by decide +kernel
theorem dX2_metByAll_26 : decode cX2_metByAll 26 = .ok (.istore_n 2, 1) := by decide +kernel
theorem dX2_metByAll_27 : decode cX2_metByAll 27 = .ok (.iinc 3 1, 3) := by decide +kernel
theorem dX2_metByAll_30 : decode cX2_metByAll 30 = .ok (.goto (-26), 3) := by decide +kernel
theorem dX2_metByAll_33 : decode cX2_metByAll 33 = .ok (.iload_n 2, 1) := by decide +kernel
theorem dX2_metByAll_34 : decode cX2_metByAll 34 = .ok (.ireturn, 1) := by decide +kernel
set_option maxRecDepth 100000 in
def F_X2_metByAll_l4 (v0 : Nat) (v1 : Nat) (v2 : Int32) (v3 : Int32) (h : Hp) : Option ((Int32 × Int32 × Hp) ⊕ (Int32 × Hp)) :=
  gd (decide (kd h v0 = 2)) <| (if (zI h v0 5) ≤ v3 then some (.inr (v2, h)) else ob (zR h v0 8) fun q2 => gd (decide (kd h q2 = 15)) <| gd (ix v3 (zl h q2)) <| ob (zR h q2 (v3).toNatClampNeg) fun q6 => ob2 (F_X10_holding q6 v0 v3 v1 h) fun r9 h10 => gd (decide (kd h q6 = 9)) <| some (.inl (v2 + r9, v3 + (1 : Int32), h10)))
set_option maxHeartbeats 4000000 in
set_option maxRecDepth 100000 in
theorem r_X2_metByAll_l4 (v0 : Nat) (v1 : Nat) (v2 : Int32) (v3 : Int32) (h : Hp) {x : Cx} {o : ((Int32 × Int32 × Hp) ⊕ (Int32 × Hp))} (e : F_X2_metByAll_l4 v0 v1 v2 v3 h = some o) (kI : ∀ z, o = .inl z → V M_X2_metByAll x 4 4 [(0, .ref v0), (1, .ref v1), (2, .int z.1), (3, .int z.2.1)] [] z.2.2 0 0) (kE33 : ∀ z : Int32 × Hp, o = .inr z → V M_X2_metByAll x 4 33 [(2, .int z.1)] [] z.2 0 0) : V M_X2_metByAll x 4 4 [(0, .ref v0), (1, .ref v1), (2, .int v2), (3, .int v3)] [] h 0 0 := by
  unfold F_X2_metByAll_l4 at e
  refine V_iload_n (pc := 4) (i := 3) dX2_metByAll_4 rfl rfl ?_
  refine V_aload_n (pc := 5) (i := 0) dX2_metByAll_5 rfl rfl ?_
  obtain ⟨g1, e⟩ := gd_some e
  refine V_getI (pc := 6) (ci := 2) (k := 5) dX2_metByAll_6 fl_X2_28 rfl (of_decide_eq_true g1) ?_
  refine V_icmp_ge (pc := 9) (tgt := 33) dX2_metByAll_9 (by decide) (fun c12 => ?_) (fun c12 => ?_)
  · rw [if_pos c12] at e
    cases e
    exact V_pick [2] rfl (kE33 (v2, h) rfl)
  · rw [if_neg c12] at e
    refine V_pick [0, 1, 2, 3] rfl ?_
    refine V_iload_n (pc := 12) (i := 2) dX2_metByAll_12 rfl rfl ?_
    refine V_aload_n (pc := 13) (i := 0) dX2_metByAll_13 rfl rfl ?_
    obtain ⟨q2, g3, e⟩ := ob_some e
    refine V_getR (pc := 14) (ci := 2) (k := 8) (b := q2) dX2_metByAll_14 fl_X2_39 rfl (of_decide_eq_true g1) g3 ?_
    refine V_iload_n (pc := 17) (i := 3) dX2_metByAll_17 rfl rfl ?_
    obtain ⟨g4, e⟩ := gd_some e
    obtain ⟨g5, e⟩ := gd_some e
    obtain ⟨q6, g7, e⟩ := ob_some e
    refine V_aald (pc := 18) (b := q6) dX2_metByAll_18 (of_decide_eq_true g4) (ix_in g5) g7 ?_
    refine V_aload_n (pc := 19) (i := 0) dX2_metByAll_19 rfl rfl ?_
    refine V_iload_n (pc := 20) (i := 3) dX2_metByAll_20 rfl rfl ?_
    refine V_aload_n (pc := 21) (i := 1) dX2_metByAll_21 rfl rfl ?_
    obtain ⟨r9, h10, g8, e⟩ := ob2_some e
    obtain ⟨g11, e⟩ := gd_some e
    refine V_callV (pc := 22) (bc := 0) (bs := 0) (mc := 0) (ms := 0) (st := [.int v2]) (As := [.ref v0, .int v3, .ref v1]) (a := q6) (h' := h10) (r := some (.int r9)) dX2_metByAll_22 ml_X2_113 (ci := 9) rfl (of_decide_eq_true g11) rfl rfl (Nat.le_of_ble_eq_true rfl) (d' := 3) (by decide) (c_X10_holding (l := x.2.1) q6 v0 v3 v1 h g8) ?_
    refine V_iadd (pc := 25) dX2_metByAll_25 ?_
    refine V_istore_n (pc := 26) (i := 2) (lv' := [(2, .int (v2 + r9)), (0, .ref v0), (1, .ref v1), (3, .int v3)]) dX2_metByAll_26 rfl (by decide) rfl ?_
    refine V_iinc (pc := 27) (i := 3) (u := v3 + (1 : Int32)) (lv' := [(3, .int (v3 + (1 : Int32))), (2, .int (v2 + r9)), (0, .ref v0), (1, .ref v1)]) dX2_metByAll_27 rfl rfl (by decide) rfl ?_
    refine V_goto (pc := 30) (tgt := 4) dX2_metByAll_30 (by decide) ?_
    cases e
    exact V_pick [2, 3, 1, 0] rfl (kI (v2 + r9, v3 + (1 : Int32), h10) rfl)
set_option maxRecDepth 100000 in
def F_X2_metByAll_b0 (v0 : Nat) (v1 : Nat) (h : Hp) : Option (Int32 × Hp) :=
  ob (iter (fun z : Int32 × Int32 × Hp => F_X2_metByAll_l4 v0 v1 z.1 z.2.1 z.2.2) FU ((0 : Int32), (0 : Int32), h)) (fun z => un2 z fun w13 h14 => some (w13, h14))
set_option maxHeartbeats 4000000 in
set_option maxRecDepth 100000 in
theorem r_X2_metByAll_b0 (v0 : Nat) (v1 : Nat) (h : Hp) {x : Cx} {r : Int32} {hz : Hp} (e : F_X2_metByAll_b0 v0 v1 h = some (r, hz)) (hF : Fin9 M_X2_metByAll x (some .int) (some (.int r)) hz) : V M_X2_metByAll x 4 0 [(0, .ref v0), (1, .ref v1)] [] h 0 0 := by
  unfold F_X2_metByAll_b0 at e
  refine V_iconst (pc := 0) (v := (0 : Int32)) dX2_metByAll_0 (by decide) ?_
  refine V_istore_n (pc := 1) (i := 2) (lv' := [(2, .int (0 : Int32)), (0, .ref v0), (1, .ref v1)]) dX2_metByAll_1 rfl (by decide) rfl ?_
  refine V_iconst (pc := 2) (v := (0 : Int32)) dX2_metByAll_2 (by decide) ?_
  refine V_istore_n (pc := 3) (i := 3) (lv' := [(3, .int (0 : Int32)), (2, .int (0 : Int32)), (0, .ref v0), (1, .ref v1)]) dX2_metByAll_3 rfl (by decide) rfl ?_
  refine V_pick [2, 3, 1, 0] rfl ?_
  obtain ⟨y15, g16, e⟩ := ob_some e
  refine iter_V (P := fun z : Int32 × Int32 × Hp => V M_X2_metByAll x 4 4 [(0, .ref v0), (1, .ref v1), (2, .int z.1), (3, .int z.2.1)] [] z.2.2 0 0) (E := fun z : Int32 × Hp => V M_X2_metByAll x 4 33 [(2, .int z.1)] [] z.2 0 0) (fun z o e9 k1 k2 => r_X2_metByAll_l4 v0 v1 z.1 z.2.1 z.2.2 e9 (fun z hz9 => k1 z hz9) (fun z hz9 => k2 _ hz9)) _ _ _ g16 ?_
  clear g16
  obtain ⟨w13, h14⟩ := y15
  replace e : (some (w13, h14)) = some (r, hz) := e
  show V M_X2_metByAll x 4 33 [(2, .int w13)] [] h14 0 0
  refine V_iload_n (pc := 33) (i := 2) dX2_metByAll_33 rfl rfl ?_
  cases e
  exact V_iret (pc := 34) dX2_metByAll_34 hF
def F_X2_metByAll (v0 : Nat) (v1 : Nat) (h : Hp) : Option (Int32 × Hp) := F_X2_metByAll_b0 v0 v1 h
theorem c_X2_metByAll {l : Launch} (v0 : Nat) (v1 : Nat) (h : Hp) {r : Int32} {hz : Hp} (e : F_X2_metByAll v0 v1 h = some (r, hz)) : Ct l yX2_metByAll M_X2_metByAll (some .int) 4 [.ref v0, .ref v1] h 0 0 (some (.int r)) hz :=
  Ct_of rfl rfl (fun q => by cases q) (Nat.le_of_ble_eq_true rfl) (fun x _ hF => V_pick [0, 1] rfl (r_X2_metByAll_b0 v0 v1 h e hF))
theorem dX3_readRoom_0 : decode cX3_readRoom 0 = .ok (.aload_n 0, 1) := by decide +kernel
theorem dX3_readRoom_1 : decode cX3_readRoom 1 = .ok (.getfield 15, 3) := by decide +kernel
theorem dX3_readRoom_4 : decode cX3_readRoom 4 = .ok (.bipush 8, 2) := by decide +kernel
theorem dX3_readRoom_6 : decode cX3_readRoom 6 = .ok (.if_icmp .lt 8, 3) := by decide +kernel
theorem dX3_readRoom_9 : decode cX3_readRoom 9 = .ok (.aload_n 1, 1) := by decide +kernel
theorem dX3_readRoom_10 : decode cX3_readRoom 10 = .ok (.invokevirtual 85, 3) := by decide +kernel
theorem dX3_readRoom_13 : decode cX3_readRoom 13 = .ok (.ireturn, 1) := by decide +kernel
theorem dX3_readRoom_14 : decode cX3_readRoom 14 = .ok (.aload_n 0, 1) := by decide +kernel
theorem dX3_readRoom_15 : decode cX3_readRoom 15 = .ok (.iconst 0, 1) := by decide +kernel
theorem dX3_readRoom_16 : decode cX3_readRoom 16 = .ok (.aload_n 1, 1) := by decide +kernel
theorem dX3_readRoom_17 : decode cX3_readRoom 17 = .ok (.invokevirtual 61, 3) := by decide +kernel
theorem dX3_readRoom_20 : decode cX3_readRoom 20 = .ok (.aload_n 0, 1) := by decide +kernel
theorem dX3_readRoom_21 : decode cX3_readRoom 21 = .ok (.dup, 1) := by decide +kernel
theorem dX3_readRoom_22 : decode cX3_readRoom 22 = .ok (.getfield 15, 3) := by decide +kernel
theorem dX3_readRoom_25 : decode cX3_readRoom 25 = .ok (.iconst 1, 1) := by decide +kernel
theorem dX3_readRoom_26 : decode cX3_readRoom 26 = .ok (.iadd, 1) := by decide +kernel
theorem dX3_readRoom_27 : decode cX3_readRoom 27 = .ok (.putfield 15, 3) := by decide +kernel
theorem dX3_readRoom_30 : decode cX3_readRoom 30 = .ok (.aload_n 0, 1) := by decide +kernel
theorem dX3_readRoom_31 : decode cX3_readRoom 31 = .ok (.iconst 1, 1) := by decide +kernel
theorem dX3_readRoom_32 : decode cX3_readRoom 32 = .ok (.iconst 0, 1) := by decide +kernel
theorem dX3_readRoom_33 : decode cX3_readRoom 33 = .ok (.bipush 9, 2) := by decide +kernel
theorem dX3_readRoom_35 : decode cX3_readRoom 35 = .ok (.aload_n 1, 1) := by decide +kernel
theorem dX3_readRoom_36 : decode cX3_readRoom 36 = .ok (.invokevirtual 65, 3) := by decide +kernel
theorem dX3_readRoom_39 : decode cX3_readRoom 39 = .ok (.ifCond .eq 30, 3) := by decide +kernel
theorem dX3_readRoom_42 : decode cX3_readRoom 42 = .ok (.aload_n 0, 1) := by decide +kernel
theorem dX3_readRoom_43 : decode cX3_readRoom 43 = .ok (.iconst 2, 1) := by decide +kernel
theorem dX3_readRoom_44 : decode cX3_readRoom 44 = .ok (.iconst 0, 1) := by decide +kernel
theorem dX3_readRoom_45 : decode cX3_readRoom 45 = .ok (.bipush 9, 2) := by decide +kernel
theorem dX3_readRoom_47 : decode cX3_readRoom 47 = .ok (.aload_n 1, 1) := by decide +kernel
theorem dX3_readRoom_48 : decode cX3_readRoom 48 = .ok (.invokevirtual 65, 3) := by decide +kernel
theorem dX3_readRoom_51 : decode cX3_readRoom 51 = .ok (.ifCond .eq 18, 3) := by decide +kernel
theorem dX3_readRoom_54 : decode cX3_readRoom 54 = .ok (.aload_n 0, 1) := by decide +kernel
theorem dX3_readRoom_55 : decode cX3_readRoom 55 = .ok (.iconst 3, 1) := by decide +kernel
theorem dX3_readRoom_56 : decode cX3_readRoom 56 = .ok (.iconst 1, 1) := by decide +kernel
theorem dX3_readRoom_57 : decode cX3_readRoom 57 = .ok (.iconst 4, 1) := by decide +kernel
theorem dX3_readRoom_58 : decode cX3_readRoom 58 = .ok (.aload_n 1, 1) := by decide +kernel
theorem dX3_readRoom_59 : decode cX3_readRoom 59 = .ok (.invokevirtual 65, 3) := by decide +kernel
theorem dX3_readRoom_62 : decode cX3_readRoom 62 = .ok (.ifCond .eq 7, 3) := by decide +kernel
theorem dX3_readRoom_65 : decode cX3_readRoom 65 = .ok (.iconst 1, 1) := by decide +kernel
theorem dX3_readRoom_66 : decode cX3_readRoom 66 = .ok (.goto 4, 3) := by decide +kernel
theorem dX3_readRoom_69 : decode cX3_readRoom 69 = .ok (.iconst 0, 1) := by decide +kernel
theorem dX3_readRoom_70 : decode cX3_readRoom 70 = .ok (.ireturn, 1) := by decide +kernel
set_option maxRecDepth 100000 in
def F_X3_readRoom_b70 (t0 : Int32) (h : Hp) : Option (Int32 × Hp) :=
  gd (decide (t0 = 0 ∨ t0 = 1)) <| some (t0, h)
set_option maxHeartbeats 4000000 in
set_option maxRecDepth 100000 in
theorem r_X3_readRoom_b70 (t0 : Int32) (h : Hp) {x : Cx} {r : Int32} {hz : Hp} (e : F_X3_readRoom_b70 t0 h = some (r, hz)) (hF : Fin9 M_X3_readRoom x (some .boolean) (some (.int r)) hz) : V M_X3_readRoom x 4 70 [] [.int t0] h 0 0 := by
  unfold F_X3_readRoom_b70 at e
  obtain ⟨g9, e⟩ := gd_some e
  cases e
  exact V_zret (pc := 70) dX3_readRoom_70 (z01 (of_decide_eq_true g9)) hF
set_option maxRecDepth 100000 in
def F_X3_readRoom_b69  (h : Hp) : Option (Int32 × Hp) :=
  F_X3_readRoom_b70 (0 : Int32) h
set_option maxHeartbeats 4000000 in
set_option maxRecDepth 100000 in
theorem r_X3_readRoom_b69  (h : Hp) {x : Cx} {r : Int32} {hz : Hp} (e : F_X3_readRoom_b69  h = some (r, hz)) (hF : Fin9 M_X3_readRoom x (some .boolean) (some (.int r)) hz) : V M_X3_readRoom x 4 69 [] [] h 0 0 := by
  unfold F_X3_readRoom_b69 at e
  refine V_iconst (pc := 69) (v := (0 : Int32)) dX3_readRoom_69 (by decide) ?_
  exact V_pick [] rfl (r_X3_readRoom_b70 (0 : Int32) h e hF)
set_option maxRecDepth 100000 in
def F_X3_readRoom_b0 (v0 : Nat) (v1 : Nat) (h : Hp) : Option (Int32 × Hp) :=
  gd (decide (kd h v0 = 3)) <| (if (zI h v0 2) < (8 : Int32) then ob2 (F_X3_begin v0 (0 : Int32) v1 h) fun _ h4 => gd (decide (kd h4 v0 = 3)) <| ob2 (F_X3_keep v0 (1 : Int32) (0 : Int32) (9 : Int32) v1 (setI h4 v0 2 ((zI h4 v0 2) + (1 : Int32)))) fun r7 h8 => (if r7 = 0 then F_X3_readRoom_b69 h8 else ob2 (F_X3_keep v0 (2 : Int32) (0 : Int32) (9 : Int32) v1 h8) fun r11 h12 => gd (decide (kd h8 v0 = 3)) <| (if r11 = 0 then F_X3_readRoom_b69 h12 else ob2 (F_X3_keep v0 (3 : Int32) (1 : Int32) (4 : Int32) v1 h12) fun r15 h16 => gd (decide (kd h12 v0 = 3)) <| (if r15 = 0 then F_X3_readRoom_b69 h16 else F_X3_readRoom_b70 (1 : Int32) h16))) else ob2 (F_X6_refuse v1 h) fun r22 h23 => gd (decide (kd h v1 = 6)) <| gd (decide (r22 = 0 ∨ r22 = 1)) <| some (r22, h23))
set_option maxHeartbeats 4000000 in
set_option maxRecDepth 100000 in
theorem r_X3_readRoom_b0 (v0 : Nat) (v1 : Nat) (h : Hp) {x : Cx} {r : Int32} {hz : Hp} (e : F_X3_readRoom_b0 v0 v1 h = some (r, hz)) (hF : Fin9 M_X3_readRoom x (some .boolean) (some (.int r)) hz) : V M_X3_readRoom x 4 0 [(0, .ref v0), (1, .ref v1)] [] h 0 0 := by
  unfold F_X3_readRoom_b0 at e
  refine V_aload_n (pc := 0) (i := 0) dX3_readRoom_0 rfl rfl ?_
  obtain ⟨g1, e⟩ := gd_some e
  refine V_getI (pc := 1) (ci := 3) (k := 2) dX3_readRoom_1 fl_X3_15 rfl (of_decide_eq_true g1) ?_
  refine V_bipush (pc := 4) (v := (8 : Int32)) dX3_readRoom_4 (by decide) ?_
  refine V_icmp_lt (pc := 6) (tgt := 14) dX3_readRoom_6 (by decide) (fun c26 => ?_) (fun c26 => ?_)
  · rw [if_pos c26] at e
    refine V_pick [0, 1] rfl ?_
    refine V_aload_n (pc := 14) (i := 0) dX3_readRoom_14 rfl rfl ?_
    refine V_iconst (pc := 15) (v := (0 : Int32)) dX3_readRoom_15 (by decide) ?_
    refine V_aload_n (pc := 16) (i := 1) dX3_readRoom_16 rfl rfl ?_
    obtain ⟨r3, h4, g2, e⟩ := ob2_some e
    refine V_callV (pc := 17) (bc := 0) (bs := 0) (mc := 0) (ms := 0) (st := []) (As := [.int (0 : Int32), .ref v1]) (a := v0) (h' := h4) (r := none) dX3_readRoom_17 ml_X3_61 (ci := 3) rfl (of_decide_eq_true g1) rfl rfl (Nat.le_of_ble_eq_true rfl) (d' := 2) (by decide) (c_X3_begin (l := x.2.1) v0 (0 : Int32) v1 h g2) ?_
    refine V_aload_n (pc := 20) (i := 0) dX3_readRoom_20 rfl rfl ?_
    refine V_dup (pc := 21) dX3_readRoom_21 rfl ?_
    obtain ⟨g5, e⟩ := gd_some e
    refine V_getI (pc := 22) (ci := 3) (k := 2) dX3_readRoom_22 fl_X3_15 rfl (of_decide_eq_true g5) ?_
    refine V_iconst (pc := 25) (v := (1 : Int32)) dX3_readRoom_25 (by decide) ?_
    refine V_iadd (pc := 26) dX3_readRoom_26 ?_
    refine V_putI (pc := 27) (ci := 3) (k := 2) dX3_readRoom_27 fp_X3_15 rfl (of_decide_eq_true g5) ?_
    refine V_aload_n (pc := 30) (i := 0) dX3_readRoom_30 rfl rfl ?_
    refine V_iconst (pc := 31) (v := (1 : Int32)) dX3_readRoom_31 (by decide) ?_
    refine V_iconst (pc := 32) (v := (0 : Int32)) dX3_readRoom_32 (by decide) ?_
    refine V_bipush (pc := 33) (v := (9 : Int32)) dX3_readRoom_33 (by decide) ?_
    refine V_aload_n (pc := 35) (i := 1) dX3_readRoom_35 rfl rfl ?_
    obtain ⟨r7, h8, g6, e⟩ := ob2_some e
    refine V_callV (pc := 36) (bc := 0) (bs := 0) (mc := 0) (ms := 0) (st := []) (As := [.int (1 : Int32), .int (0 : Int32), .int (9 : Int32), .ref v1]) (a := v0) (h' := h8) (r := some (.int r7)) dX3_readRoom_36 ml_X3_65 (ci := 3) rfl (kd_sI (of_decide_eq_true g5)) rfl rfl (Nat.le_of_ble_eq_true rfl) (d' := 3) (by decide) (c_X3_keep (l := x.2.1) v0 (1 : Int32) (0 : Int32) (9 : Int32) v1 (setI h4 v0 2 ((zI h4 v0 2) + (1 : Int32))) g6) ?_
    refine V_if_eq (pc := 39) (tgt := 69) dX3_readRoom_39 (by decide) (fun c20 => ?_) (fun c20 => ?_)
    · rw [if_pos c20] at e
      exact V_pick [] rfl (r_X3_readRoom_b69 h8 e hF)
    · rw [if_neg c20] at e
      refine V_pick [0, 1] rfl ?_
      refine V_aload_n (pc := 42) (i := 0) dX3_readRoom_42 rfl rfl ?_
      refine V_iconst (pc := 43) (v := (2 : Int32)) dX3_readRoom_43 (by decide) ?_
      refine V_iconst (pc := 44) (v := (0 : Int32)) dX3_readRoom_44 (by decide) ?_
      refine V_bipush (pc := 45) (v := (9 : Int32)) dX3_readRoom_45 (by decide) ?_
      refine V_aload_n (pc := 47) (i := 1) dX3_readRoom_47 rfl rfl ?_
      obtain ⟨r11, h12, g10, e⟩ := ob2_some e
      obtain ⟨g13, e⟩ := gd_some e
      refine V_callV (pc := 48) (bc := 0) (bs := 0) (mc := 0) (ms := 0) (st := []) (As := [.int (2 : Int32), .int (0 : Int32), .int (9 : Int32), .ref v1]) (a := v0) (h' := h12) (r := some (.int r11)) dX3_readRoom_48 ml_X3_65 (ci := 3) rfl (of_decide_eq_true g13) rfl rfl (Nat.le_of_ble_eq_true rfl) (d' := 3) (by decide) (c_X3_keep (l := x.2.1) v0 (2 : Int32) (0 : Int32) (9 : Int32) v1 h8 g10) ?_
      refine V_if_eq (pc := 51) (tgt := 69) dX3_readRoom_51 (by decide) (fun c19 => ?_) (fun c19 => ?_)
      · rw [if_pos c19] at e
        exact V_pick [] rfl (r_X3_readRoom_b69 h12 e hF)
      · rw [if_neg c19] at e
        refine V_pick [0, 1] rfl ?_
        refine V_aload_n (pc := 54) (i := 0) dX3_readRoom_54 rfl rfl ?_
        refine V_iconst (pc := 55) (v := (3 : Int32)) dX3_readRoom_55 (by decide) ?_
        refine V_iconst (pc := 56) (v := (1 : Int32)) dX3_readRoom_56 (by decide) ?_
        refine V_iconst (pc := 57) (v := (4 : Int32)) dX3_readRoom_57 (by decide) ?_
        refine V_aload_n (pc := 58) (i := 1) dX3_readRoom_58 rfl rfl ?_
        obtain ⟨r15, h16, g14, e⟩ := ob2_some e
        obtain ⟨g17, e⟩ := gd_some e
        refine V_callV (pc := 59) (bc := 0) (bs := 0) (mc := 0) (ms := 0) (st := []) (As := [.int (3 : Int32), .int (1 : Int32), .int (4 : Int32), .ref v1]) (a := v0) (h' := h16) (r := some (.int r15)) dX3_readRoom_59 ml_X3_65 (ci := 3) rfl (of_decide_eq_true g17) rfl rfl (Nat.le_of_ble_eq_true rfl) (d' := 3) (by decide) (c_X3_keep (l := x.2.1) v0 (3 : Int32) (1 : Int32) (4 : Int32) v1 h12 g14) ?_
        refine V_if_eq (pc := 62) (tgt := 69) dX3_readRoom_62 (by decide) (fun c18 => ?_) (fun c18 => ?_)
        · rw [if_pos c18] at e
          exact V_pick [] rfl (r_X3_readRoom_b69 h16 e hF)
        · rw [if_neg c18] at e
          refine V_pick [] rfl ?_
          refine V_iconst (pc := 65) (v := (1 : Int32)) dX3_readRoom_65 (by decide) ?_
          refine V_goto (pc := 66) (tgt := 70) dX3_readRoom_66 (by decide) ?_
          exact V_pick [] rfl (r_X3_readRoom_b70 (1 : Int32) h16 e hF)
  · rw [if_neg c26] at e
    refine V_pick [1] rfl ?_
    refine V_aload_n (pc := 9) (i := 1) dX3_readRoom_9 rfl rfl ?_
    obtain ⟨r22, h23, g21, e⟩ := ob2_some e
    obtain ⟨g24, e⟩ := gd_some e
    refine V_callV (pc := 10) (bc := 0) (bs := 0) (mc := 0) (ms := 0) (st := []) (As := []) (a := v1) (h' := h23) (r := some (.int r22)) dX3_readRoom_10 ml_X3_85 (ci := 6) rfl (of_decide_eq_true g24) rfl rfl (Nat.le_of_ble_eq_true rfl) (d' := 0) (by decide) (c_X6_refuse (l := x.2.1) v1 h g21) ?_
    obtain ⟨g25, e⟩ := gd_some e
    cases e
    exact V_zret (pc := 13) dX3_readRoom_13 (z01 (of_decide_eq_true g25)) hF
def F_X3_readRoom (v0 : Nat) (v1 : Nat) (h : Hp) : Option (Int32 × Hp) := F_X3_readRoom_b0 v0 v1 h
theorem c_X3_readRoom {l : Launch} (v0 : Nat) (v1 : Nat) (h : Hp) {r : Int32} {hz : Hp} (e : F_X3_readRoom v0 v1 h = some (r, hz)) : Ct l yX3_readRoom M_X3_readRoom (some .boolean) 4 [.ref v0, .ref v1] h 0 0 (some (.int r)) hz :=
  Ct_of rfl rfl (fun q => by cases q) (Nat.le_of_ble_eq_true rfl) (fun x _ hF => V_pick [0, 1] rfl (r_X3_readRoom_b0 v0 v1 h e hF))
theorem dX3_readGuest_0 : decode cX3_readGuest 0 = .ok (.aload_n 0, 1) := by decide +kernel
theorem dX3_readGuest_1 : decode cX3_readGuest 1 = .ok (.getfield 19, 3) := by decide +kernel
theorem dX3_readGuest_4 : decode cX3_readGuest 4 = .ok (.iconst 5, 1) := by decide +kernel
theorem dX3_readGuest_5 : decode cX3_readGuest 5 = .ok (.if_icmp .lt 8, 3) := by decide +kernel
theorem dX3_readGuest_8 : decode cX3_readGuest 8 = .ok (.aload_n 1, 1) := by decide +kernel
theorem dX3_readGuest_9 : decode cX3_readGuest 9 = .ok (.invokevirtual 85, 3) := by decide +kernel
theorem dX3_readGuest_12 : decode cX3_readGuest 12 = .ok (.ireturn, 1) := by decide +kernel
theorem dX3_readGuest_13 : decode cX3_readGuest 13 = .ok (.aload_n 0, 1) := by decide +kernel
theorem dX3_readGuest_14 : decode cX3_readGuest 14 = .ok (.iconst 1, 1) := by decide +kernel
theorem dX3_readGuest_15 : decode cX3_readGuest 15 = .ok (.aload_n 1, 1) := by decide +kernel
theorem dX3_readGuest_16 : decode cX3_readGuest 16 = .ok (.invokevirtual 61, 3) := by decide +kernel
theorem dX3_readGuest_19 : decode cX3_readGuest 19 = .ok (.aload_n 0, 1) := by decide +kernel
theorem dX3_readGuest_20 : decode cX3_readGuest 20 = .ok (.dup, 1) := by decide +kernel
theorem dX3_readGuest_21 : decode cX3_readGuest 21 = .ok (.getfield 19, 3) := by decide +kernel
theorem dX3_readGuest_24 : decode cX3_readGuest 24 = .ok (.iconst 1, 1) := by decide +kernel
theorem dX3_readGuest_25 : decode cX3_readGuest 25 = .ok (.iadd, 1) := by decide +kernel
theorem dX3_readGuest_26 : decode cX3_readGuest 26 = .ok (.putfield 19, 3) := by decide +kernel
theorem dX3_readGuest_29 : decode cX3_readGuest 29 = .ok (.aload_n 0, 1) := by decide +kernel
theorem dX3_readGuest_30 : decode cX3_readGuest 30 = .ok (.iconst 1, 1) := by decide +kernel
theorem dX3_readGuest_31 : decode cX3_readGuest 31 = .ok (.iconst 1, 1) := by decide +kernel
theorem dX3_readGuest_32 : decode cX3_readGuest 32 = .ok (.sipush 200, 3) := by decide +kernel
theorem dX3_readGuest_35 : decode cX3_readGuest 35 = .ok (.aload_n 1, 1) := by decide +kernel
theorem dX3_readGuest_36 : decode cX3_readGuest 36 = .ok (.invokevirtual 65, 3) := by decide +kernel
theorem dX3_readGuest_39 : decode cX3_readGuest 39 = .ok (.ifCond .eq 32, 3) := by decide +kernel
theorem dX3_readGuest_42 : decode cX3_readGuest 42 = .ok (.aload_n 1, 1) := by decide +kernel
theorem dX3_readGuest_43 : decode cX3_readGuest 43 = .ok (.ldc 69, 2) := by decide +kernel
theorem dX3_readGuest_45 : decode cX3_readGuest 45 = .ok (.invokevirtual 71, 3) := by decide +kernel
theorem dX3_readGuest_48 : decode cX3_readGuest 48 = .ok (.ifCond .eq 23, 3) := by decide +kernel
theorem dX3_readGuest_51 : decode cX3_readGuest 51 = .ok (.aload_n 0, 1) := by decide +kernel
theorem dX3_readGuest_52 : decode cX3_readGuest 52 = .ok (.iconst 2, 1) := by decide +kernel
theorem dX3_readGuest_53 : decode cX3_readGuest 53 = .ok (.iconst 0, 1) := by decide +kernel
theorem dX3_readGuest_54 : decode cX3_readGuest 54 = .ok (.aload_n 0, 1) := by decide +kernel
theorem dX3_readGuest_55 : decode cX3_readGuest 55 = .ok (.getfield 15, 3) := by decide +kernel
theorem dX3_readGuest_58 : decode cX3_readGuest 58 = .ok (.iconst 1, 1) := by decide +kernel
theorem dX3_readGuest_59 : decode cX3_readGuest 59 = .ok (.isub, 1) := by decide +kernel
theorem dX3_readGuest_60 : decode cX3_readGuest 60 = .ok (.aload_n 1, 1) := by decide +kernel
theorem dX3_readGuest_61 : decode cX3_readGuest 61 = .ok (.invokevirtual 65, 3) := by decide +kernel
theorem dX3_readGuest_64 : decode cX3_readGuest 64 = .ok (.ifCond .eq 7, 3) := by decide +kernel
theorem dX3_readGuest_67 : decode cX3_readGuest 67 = .ok (.iconst 1, 1) := by decide +kernel
theorem dX3_readGuest_68 : decode cX3_readGuest 68 = .ok (.goto 4, 3) := by decide +kernel
theorem dX3_readGuest_71 : decode cX3_readGuest 71 = .ok (.iconst 0, 1) := by decide +kernel
theorem dX3_readGuest_72 : decode cX3_readGuest 72 = .ok (.ireturn, 1) := by decide +kernel
set_option maxRecDepth 100000 in
def F_X3_readGuest_b72 (t0 : Int32) (h : Hp) : Option (Int32 × Hp) :=
  gd (decide (t0 = 0 ∨ t0 = 1)) <| some (t0, h)
set_option maxHeartbeats 4000000 in
set_option maxRecDepth 100000 in
theorem r_X3_readGuest_b72 (t0 : Int32) (h : Hp) {x : Cx} {r : Int32} {hz : Hp} (e : F_X3_readGuest_b72 t0 h = some (r, hz)) (hF : Fin9 M_X3_readGuest x (some .boolean) (some (.int r)) hz) : V M_X3_readGuest x 6 72 [] [.int t0] h 0 0 := by
  unfold F_X3_readGuest_b72 at e
  obtain ⟨g9, e⟩ := gd_some e
  cases e
  exact V_zret (pc := 72) dX3_readGuest_72 (z01 (of_decide_eq_true g9)) hF
set_option maxRecDepth 100000 in
def F_X3_readGuest_b71  (h : Hp) : Option (Int32 × Hp) :=
  F_X3_readGuest_b72 (0 : Int32) h
set_option maxHeartbeats 4000000 in
set_option maxRecDepth 100000 in
theorem r_X3_readGuest_b71  (h : Hp) {x : Cx} {r : Int32} {hz : Hp} (e : F_X3_readGuest_b71  h = some (r, hz)) (hF : Fin9 M_X3_readGuest x (some .boolean) (some (.int r)) hz) : V M_X3_readGuest x 6 71 [] [] h 0 0 := by
  unfold F_X3_readGuest_b71 at e
  refine V_iconst (pc := 71) (v := (0 : Int32)) dX3_readGuest_71 (by decide) ?_
  exact V_pick [] rfl (r_X3_readGuest_b72 (0 : Int32) h e hF)
set_option maxRecDepth 100000 in
def F_X3_readGuest_b0 (v0 : Nat) (v1 : Nat) (h : Hp) : Option (Int32 × Hp) :=
  gd (decide (kd h v0 = 3)) <| (if (zI h v0 3) < (5 : Int32) then ob2 (F_X3_begin v0 (1 : Int32) v1 h) fun _ h4 => gd (decide (kd h4 v0 = 3)) <| ob2 (F_X3_keep v0 (1 : Int32) (1 : Int32) (200 : Int32) v1 (setI h4 v0 3 ((zI h4 v0 3) + (1 : Int32)))) fun r7 h8 => (if r7 = 0 then F_X3_readGuest_b71 h8 else ob2 (F_X6_takeWord v1 (4 : UInt32) h8) fun r11 h12 => gd (decide (kd h8 v1 = 6)) <| (if r11 = 0 then F_X3_readGuest_b71 h12 else gd (decide (kd h12 v0 = 3)) <| ob2 (F_X3_keep v0 (2 : Int32) (0 : Int32) ((zI h12 v0 2) - (1 : Int32)) v1 h12) fun r16 h17 => (if r16 = 0 then F_X3_readGuest_b71 h17 else F_X3_readGuest_b72 (1 : Int32) h17))) else ob2 (F_X6_refuse v1 h) fun r22 h23 => gd (decide (kd h v1 = 6)) <| gd (decide (r22 = 0 ∨ r22 = 1)) <| some (r22, h23))
set_option maxHeartbeats 4000000 in
set_option maxRecDepth 100000 in
theorem r_X3_readGuest_b0 (v0 : Nat) (v1 : Nat) (h : Hp) {x : Cx} {r : Int32} {hz : Hp} (e : F_X3_readGuest_b0 v0 v1 h = some (r, hz)) (hF : Fin9 M_X3_readGuest x (some .boolean) (some (.int r)) hz) : V M_X3_readGuest x 6 0 [(0, .ref v0), (1, .ref v1)] [] h 0 0 := by
  unfold F_X3_readGuest_b0 at e
  refine V_aload_n (pc := 0) (i := 0) dX3_readGuest_0 rfl rfl ?_
  obtain ⟨g1, e⟩ := gd_some e
  refine V_getI (pc := 1) (ci := 3) (k := 3) dX3_readGuest_1 fl_X3_19 rfl (of_decide_eq_true g1) ?_
  refine V_iconst (pc := 4) (v := (5 : Int32)) dX3_readGuest_4 (by decide) ?_
  refine V_icmp_lt (pc := 5) (tgt := 13) dX3_readGuest_5 (by decide) (fun c26 => ?_) (fun c26 => ?_)
  · rw [if_pos c26] at e
    refine V_pick [0, 1] rfl ?_
    refine V_aload_n (pc := 13) (i := 0) dX3_readGuest_13 rfl rfl ?_
    refine V_iconst (pc := 14) (v := (1 : Int32)) dX3_readGuest_14 (by decide) ?_
    refine V_aload_n (pc := 15) (i := 1) dX3_readGuest_15 rfl rfl ?_
    obtain ⟨r3, h4, g2, e⟩ := ob2_some e
    refine V_callV (pc := 16) (bc := 0) (bs := 0) (mc := 0) (ms := 0) (st := []) (As := [.int (1 : Int32), .ref v1]) (a := v0) (h' := h4) (r := none) dX3_readGuest_16 ml_X3_61 (ci := 3) rfl (of_decide_eq_true g1) rfl rfl (Nat.le_of_ble_eq_true rfl) (d' := 2) (by decide) (c_X3_begin (l := x.2.1) v0 (1 : Int32) v1 h g2) ?_
    refine V_aload_n (pc := 19) (i := 0) dX3_readGuest_19 rfl rfl ?_
    refine V_dup (pc := 20) dX3_readGuest_20 rfl ?_
    obtain ⟨g5, e⟩ := gd_some e
    refine V_getI (pc := 21) (ci := 3) (k := 3) dX3_readGuest_21 fl_X3_19 rfl (of_decide_eq_true g5) ?_
    refine V_iconst (pc := 24) (v := (1 : Int32)) dX3_readGuest_24 (by decide) ?_
    refine V_iadd (pc := 25) dX3_readGuest_25 ?_
    refine V_putI (pc := 26) (ci := 3) (k := 3) dX3_readGuest_26 fp_X3_19 rfl (of_decide_eq_true g5) ?_
    refine V_aload_n (pc := 29) (i := 0) dX3_readGuest_29 rfl rfl ?_
    refine V_iconst (pc := 30) (v := (1 : Int32)) dX3_readGuest_30 (by decide) ?_
    refine V_iconst (pc := 31) (v := (1 : Int32)) dX3_readGuest_31 (by decide) ?_
    refine V_sipush (pc := 32) (v := (200 : Int32)) dX3_readGuest_32 (by decide) ?_
    refine V_aload_n (pc := 35) (i := 1) dX3_readGuest_35 rfl rfl ?_
    obtain ⟨r7, h8, g6, e⟩ := ob2_some e
    refine V_callV (pc := 36) (bc := 0) (bs := 0) (mc := 0) (ms := 0) (st := []) (As := [.int (1 : Int32), .int (1 : Int32), .int (200 : Int32), .ref v1]) (a := v0) (h' := h8) (r := some (.int r7)) dX3_readGuest_36 ml_X3_65 (ci := 3) rfl (kd_sI (of_decide_eq_true g5)) rfl rfl (Nat.le_of_ble_eq_true rfl) (d' := 3) (by decide) (c_X3_keep (l := x.2.1) v0 (1 : Int32) (1 : Int32) (200 : Int32) v1 (setI h4 v0 3 ((zI h4 v0 3) + (1 : Int32))) g6) ?_
    refine V_if_eq (pc := 39) (tgt := 71) dX3_readGuest_39 (by decide) (fun c20 => ?_) (fun c20 => ?_)
    · rw [if_pos c20] at e
      exact V_pick [] rfl (r_X3_readGuest_b71 h8 e hF)
    · rw [if_neg c20] at e
      refine V_pick [0, 1] rfl ?_
      refine V_aload_n (pc := 42) (i := 1) dX3_readGuest_42 rfl rfl ?_
      refine V_ldcS (pc := 43) (j := 4) (u := (4 : UInt32)) dX3_readGuest_43 rfl (by decide) ?_
      obtain ⟨r11, h12, g10, e⟩ := ob2_some e
      obtain ⟨g13, e⟩ := gd_some e
      refine V_callV (pc := 45) (bc := 0) (bs := 0) (mc := 0) (ms := 0) (st := []) (As := [.float (4 : UInt32)]) (a := v1) (h' := h12) (r := some (.int r11)) dX3_readGuest_45 ml_X3_71 (ci := 6) rfl (of_decide_eq_true g13) rfl rfl (Nat.le_of_ble_eq_true rfl) (d' := 5) (by decide) (c_X6_takeWord (l := x.2.1) v1 (4 : UInt32) h8 g10) ?_
      refine V_if_eq (pc := 48) (tgt := 71) dX3_readGuest_48 (by decide) (fun c19 => ?_) (fun c19 => ?_)
      · rw [if_pos c19] at e
        exact V_pick [] rfl (r_X3_readGuest_b71 h12 e hF)
      · rw [if_neg c19] at e
        refine V_pick [0, 1] rfl ?_
        refine V_aload_n (pc := 51) (i := 0) dX3_readGuest_51 rfl rfl ?_
        refine V_iconst (pc := 52) (v := (2 : Int32)) dX3_readGuest_52 (by decide) ?_
        refine V_iconst (pc := 53) (v := (0 : Int32)) dX3_readGuest_53 (by decide) ?_
        refine V_aload_n (pc := 54) (i := 0) dX3_readGuest_54 rfl rfl ?_
        obtain ⟨g14, e⟩ := gd_some e
        refine V_getI (pc := 55) (ci := 3) (k := 2) dX3_readGuest_55 fl_X3_15 rfl (of_decide_eq_true g14) ?_
        refine V_iconst (pc := 58) (v := (1 : Int32)) dX3_readGuest_58 (by decide) ?_
        refine V_isub (pc := 59) dX3_readGuest_59 ?_
        refine V_aload_n (pc := 60) (i := 1) dX3_readGuest_60 rfl rfl ?_
        obtain ⟨r16, h17, g15, e⟩ := ob2_some e
        refine V_callV (pc := 61) (bc := 0) (bs := 0) (mc := 0) (ms := 0) (st := []) (As := [.int (2 : Int32), .int (0 : Int32), .int ((zI h12 v0 2) - (1 : Int32)), .ref v1]) (a := v0) (h' := h17) (r := some (.int r16)) dX3_readGuest_61 ml_X3_65 (ci := 3) rfl (of_decide_eq_true g14) rfl rfl (Nat.le_of_ble_eq_true rfl) (d' := 3) (by decide) (c_X3_keep (l := x.2.1) v0 (2 : Int32) (0 : Int32) ((zI h12 v0 2) - (1 : Int32)) v1 h12 g15) ?_
        refine V_if_eq (pc := 64) (tgt := 71) dX3_readGuest_64 (by decide) (fun c18 => ?_) (fun c18 => ?_)
        · rw [if_pos c18] at e
          exact V_pick [] rfl (r_X3_readGuest_b71 h17 e hF)
        · rw [if_neg c18] at e
          refine V_pick [] rfl ?_
          refine V_iconst (pc := 67) (v := (1 : Int32)) dX3_readGuest_67 (by decide) ?_
          refine V_goto (pc := 68) (tgt := 72) dX3_readGuest_68 (by decide) ?_
          exact V_pick [] rfl (r_X3_readGuest_b72 (1 : Int32) h17 e hF)
  · rw [if_neg c26] at e
    refine V_pick [1] rfl ?_
    refine V_aload_n (pc := 8) (i := 1) dX3_readGuest_8 rfl rfl ?_
    obtain ⟨r22, h23, g21, e⟩ := ob2_some e
    obtain ⟨g24, e⟩ := gd_some e
    refine V_callV (pc := 9) (bc := 0) (bs := 0) (mc := 0) (ms := 0) (st := []) (As := []) (a := v1) (h' := h23) (r := some (.int r22)) dX3_readGuest_9 ml_X3_85 (ci := 6) rfl (of_decide_eq_true g24) rfl rfl (Nat.le_of_ble_eq_true rfl) (d' := 0) (by decide) (c_X6_refuse (l := x.2.1) v1 h g21) ?_
    obtain ⟨g25, e⟩ := gd_some e
    cases e
    exact V_zret (pc := 12) dX3_readGuest_12 (z01 (of_decide_eq_true g25)) hF
def F_X3_readGuest (v0 : Nat) (v1 : Nat) (h : Hp) : Option (Int32 × Hp) := F_X3_readGuest_b0 v0 v1 h
theorem c_X3_readGuest {l : Launch} (v0 : Nat) (v1 : Nat) (h : Hp) {r : Int32} {hz : Hp} (e : F_X3_readGuest v0 v1 h = some (r, hz)) : Ct l yX3_readGuest M_X3_readGuest (some .boolean) 6 [.ref v0, .ref v1] h 0 0 (some (.int r)) hz :=
  Ct_of rfl rfl (fun q => by cases q) (Nat.le_of_ble_eq_true rfl) (fun x _ hF => V_pick [0, 1] rfl (r_X3_readGuest_b0 v0 v1 h e hF))
theorem dX3_readTrunk_0 : decode cX3_readTrunk 0 = .ok (.aload_n 0, 1) := by decide +kernel
theorem dX3_readTrunk_1 : decode cX3_readTrunk 1 = .ok (.getfield 22, 3) := by decide +kernel
theorem dX3_readTrunk_4 : decode cX3_readTrunk 4 = .ok (.bipush 6, 2) := by decide +kernel
theorem dX3_readTrunk_6 : decode cX3_readTrunk 6 = .ok (.if_icmp .lt 8, 3) := by decide +kernel
theorem dX3_readTrunk_9 : decode cX3_readTrunk 9 = .ok (.aload_n 1, 1) := by decide +kernel
theorem dX3_readTrunk_10 : decode cX3_readTrunk 10 = .ok (.invokevirtual 85, 3) := by decide +kernel
theorem dX3_readTrunk_13 : decode cX3_readTrunk 13 = .ok (.ireturn, 1) := by decide +kernel
theorem dX3_readTrunk_14 : decode cX3_readTrunk 14 = .ok (.aload_n 0, 1) := by decide +kernel
theorem dX3_readTrunk_15 : decode cX3_readTrunk 15 = .ok (.iconst 2, 1) := by decide +kernel
theorem dX3_readTrunk_16 : decode cX3_readTrunk 16 = .ok (.aload_n 1, 1) := by decide +kernel
theorem dX3_readTrunk_17 : decode cX3_readTrunk 17 = .ok (.invokevirtual 61, 3) := by decide +kernel
theorem dX3_readTrunk_20 : decode cX3_readTrunk 20 = .ok (.aload_n 0, 1) := by decide +kernel
theorem dX3_readTrunk_21 : decode cX3_readTrunk 21 = .ok (.dup, 1) := by decide +kernel
theorem dX3_readTrunk_22 : decode cX3_readTrunk 22 = .ok (.getfield 22, 3) := by decide +kernel
theorem dX3_readTrunk_25 : decode cX3_readTrunk 25 = .ok (.iconst 1, 1) := by decide +kernel
theorem dX3_readTrunk_26 : decode cX3_readTrunk 26 = .ok (.iadd, 1) := by decide +kernel
theorem dX3_readTrunk_27 : decode cX3_readTrunk 27 = .ok (.putfield 22, 3) := by decide +kernel
theorem dX3_readTrunk_30 : decode cX3_readTrunk 30 = .ok (.aload_n 0, 1) := by decide +kernel
theorem dX3_readTrunk_31 : decode cX3_readTrunk 31 = .ok (.iconst 1, 1) := by decide +kernel
theorem dX3_readTrunk_32 : decode cX3_readTrunk 32 = .ok (.iconst 0, 1) := by decide +kernel
theorem dX3_readTrunk_33 : decode cX3_readTrunk 33 = .ok (.sipush 300, 3) := by decide +kernel
theorem dX3_readTrunk_36 : decode cX3_readTrunk 36 = .ok (.aload_n 1, 1) := by decide +kernel
theorem dX3_readTrunk_37 : decode cX3_readTrunk 37 = .ok (.invokevirtual 65, 3) := by decide +kernel
theorem dX3_readTrunk_40 : decode cX3_readTrunk 40 = .ok (.ifCond .eq 57, 3) := by decide +kernel
theorem dX3_readTrunk_43 : decode cX3_readTrunk 43 = .ok (.aload_n 1, 1) := by decide +kernel
theorem dX3_readTrunk_44 : decode cX3_readTrunk 44 = .ok (.ldc 89, 2) := by decide +kernel
theorem dX3_readTrunk_46 : decode cX3_readTrunk 46 = .ok (.invokevirtual 71, 3) := by decide +kernel
theorem dX3_readTrunk_49 : decode cX3_readTrunk 49 = .ok (.ifCond .eq 48, 3) := by decide +kernel
theorem dX3_readTrunk_52 : decode cX3_readTrunk 52 = .ok (.aload_n 0, 1) := by decide +kernel
theorem dX3_readTrunk_53 : decode cX3_readTrunk 53 = .ok (.iconst 2, 1) := by decide +kernel
theorem dX3_readTrunk_54 : decode cX3_readTrunk 54 = .ok (.aload_n 1, 1) := by decide +kernel
theorem dX3_readTrunk_55 : decode cX3_readTrunk 55 = .ok (.getfield 91, 3) := by decide +kernel
theorem dX3_readTrunk_58 : decode cX3_readTrunk 58 = .ok (.sipush 300, 3) := by decide +kernel
theorem dX3_readTrunk_61 : decode cX3_readTrunk 61 = .ok (.aload_n 1, 1) := by decide +kernel
theorem dX3_readTrunk_62 : decode cX3_readTrunk 62 = .ok (.invokevirtual 65, 3) := by decide +kernel
theorem dX3_readTrunk_65 : decode cX3_readTrunk 65 = .ok (.ifCond .eq 32, 3) := by decide +kernel
theorem dX3_readTrunk_68 : decode cX3_readTrunk 68 = .ok (.aload_n 1, 1) := by decide +kernel
theorem dX3_readTrunk_69 : decode cX3_readTrunk 69 = .ok (.ldc 69, 2) := by decide +kernel
theorem dX3_readTrunk_71 : decode cX3_readTrunk 71 = .ok (.invokevirtual 71, 3) := by decide +kernel
theorem dX3_readTrunk_74 : decode cX3_readTrunk 74 = .ok (.ifCond .eq 23, 3) := by decide +kernel
theorem dX3_readTrunk_77 : decode cX3_readTrunk 77 = .ok (.aload_n 0, 1) := by decide +kernel
theorem dX3_readTrunk_78 : decode cX3_readTrunk 78 = .ok (.iconst 3, 1) := by decide +kernel
theorem dX3_readTrunk_79 : decode cX3_readTrunk 79 = .ok (.iconst 0, 1) := by decide +kernel
theorem dX3_readTrunk_80 : decode cX3_readTrunk 80 = .ok (.aload_n 0, 1) := by decide +kernel
theorem dX3_readTrunk_81 : decode cX3_readTrunk 81 = .ok (.getfield 15, 3) := by decide +kernel
theorem dX3_readTrunk_84 : decode cX3_readTrunk 84 = .ok (.iconst 1, 1) := by decide +kernel
theorem dX3_readTrunk_85 : decode cX3_readTrunk 85 = .ok (.isub, 1) := by decide +kernel
theorem dX3_readTrunk_86 : decode cX3_readTrunk 86 = .ok (.aload_n 1, 1) := by decide +kernel
theorem dX3_readTrunk_87 : decode cX3_readTrunk 87 = .ok (.invokevirtual 65, 3) := by decide +kernel
theorem dX3_readTrunk_90 : decode cX3_readTrunk 90 = .ok (.ifCond .eq 7, 3) := by decide +kernel
theorem dX3_readTrunk_93 : decode cX3_readTrunk 93 = .ok (.iconst 1, 1) := by decide +kernel
theorem dX3_readTrunk_94 : decode cX3_readTrunk 94 = .ok (.goto 4, 3) := by decide +kernel
theorem dX3_readTrunk_97 : decode cX3_readTrunk 97 = .ok (.iconst 0, 1) := by decide +kernel
theorem dX3_readTrunk_98 : decode cX3_readTrunk 98 = .ok (.ireturn, 1) := by decide +kernel
set_option maxRecDepth 100000 in
def F_X3_readTrunk_b98 (t0 : Int32) (h : Hp) : Option (Int32 × Hp) :=
  gd (decide (t0 = 0 ∨ t0 = 1)) <| some (t0, h)
set_option maxHeartbeats 4000000 in
set_option maxRecDepth 100000 in
theorem r_X3_readTrunk_b98 (t0 : Int32) (h : Hp) {x : Cx} {r : Int32} {hz : Hp} (e : F_X3_readTrunk_b98 t0 h = some (r, hz)) (hF : Fin9 M_X3_readTrunk x (some .boolean) (some (.int r)) hz) : V M_X3_readTrunk x 6 98 [] [.int t0] h 0 0 := by
  unfold F_X3_readTrunk_b98 at e
  obtain ⟨g9, e⟩ := gd_some e
  cases e
  exact V_zret (pc := 98) dX3_readTrunk_98 (z01 (of_decide_eq_true g9)) hF
set_option maxRecDepth 100000 in
def F_X3_readTrunk_b97  (h : Hp) : Option (Int32 × Hp) :=
  F_X3_readTrunk_b98 (0 : Int32) h
set_option maxHeartbeats 4000000 in
set_option maxRecDepth 100000 in
theorem r_X3_readTrunk_b97  (h : Hp) {x : Cx} {r : Int32} {hz : Hp} (e : F_X3_readTrunk_b97  h = some (r, hz)) (hF : Fin9 M_X3_readTrunk x (some .boolean) (some (.int r)) hz) : V M_X3_readTrunk x 6 97 [] [] h 0 0 := by
  unfold F_X3_readTrunk_b97 at e
  refine V_iconst (pc := 97) (v := (0 : Int32)) dX3_readTrunk_97 (by decide) ?_
  exact V_pick [] rfl (r_X3_readTrunk_b98 (0 : Int32) h e hF)
set_option maxRecDepth 100000 in
def F_X3_readTrunk_b0 (v0 : Nat) (v1 : Nat) (h : Hp) : Option (Int32 × Hp) :=
  gd (decide (kd h v0 = 3)) <| (if (zI h v0 4) < (6 : Int32) then ob2 (F_X3_begin v0 (2 : Int32) v1 h) fun _ h4 => gd (decide (kd h4 v0 = 3)) <| ob2 (F_X3_keep v0 (1 : Int32) (0 : Int32) (300 : Int32) v1 (setI h4 v0 4 ((zI h4 v0 4) + (1 : Int32)))) fun r7 h8 => (if r7 = 0 then F_X3_readTrunk_b97 h8 else ob2 (F_X6_takeWord v1 (6 : UInt32) h8) fun r11 h12 => gd (decide (kd h8 v1 = 6)) <| (if r11 = 0 then F_X3_readTrunk_b97 h12 else gd (decide (kd h12 v1 = 6)) <| ob2 (F_X3_keep v0 (2 : Int32) (zI h12 v1 5) (300 : Int32) v1 h12) fun r16 h17 => gd (decide (kd h12 v0 = 3)) <| (if r16 = 0 then F_X3_readTrunk_b97 h17 else ob2 (F_X6_takeWord v1 (4 : UInt32) h17) fun r20 h21 => gd (decide (kd h17 v1 = 6)) <| (if r20 = 0 then F_X3_readTrunk_b97 h21 else gd (decide (kd h21 v0 = 3)) <| ob2 (F_X3_keep v0 (3 : Int32) (0 : Int32) ((zI h21 v0 2) - (1 : Int32)) v1 h21) fun r25 h26 => (if r25 = 0 then F_X3_readTrunk_b97 h26 else F_X3_readTrunk_b98 (1 : Int32) h26))))) else ob2 (F_X6_refuse v1 h) fun r33 h34 => gd (decide (kd h v1 = 6)) <| gd (decide (r33 = 0 ∨ r33 = 1)) <| some (r33, h34))
set_option maxHeartbeats 4000000 in
set_option maxRecDepth 100000 in
theorem r_X3_readTrunk_b0 (v0 : Nat) (v1 : Nat) (h : Hp) {x : Cx} {r : Int32} {hz : Hp} (e : F_X3_readTrunk_b0 v0 v1 h = some (r, hz)) (hF : Fin9 M_X3_readTrunk x (some .boolean) (some (.int r)) hz) : V M_X3_readTrunk x 6 0 [(0, .ref v0), (1, .ref v1)] [] h 0 0 := by
  unfold F_X3_readTrunk_b0 at e
  refine V_aload_n (pc := 0) (i := 0) dX3_readTrunk_0 rfl rfl ?_
  obtain ⟨g1, e⟩ := gd_some e
  refine V_getI (pc := 1) (ci := 3) (k := 4) dX3_readTrunk_1 fl_X3_22 rfl (of_decide_eq_true g1) ?_
  refine V_bipush (pc := 4) (v := (6 : Int32)) dX3_readTrunk_4 (by decide) ?_
  refine V_icmp_lt (pc := 6) (tgt := 14) dX3_readTrunk_6 (by decide) (fun c37 => ?_) (fun c37 => ?_)
  · rw [if_pos c37] at e
    refine V_pick [0, 1] rfl ?_
    refine V_aload_n (pc := 14) (i := 0) dX3_readTrunk_14 rfl rfl ?_
    refine V_iconst (pc := 15) (v := (2 : Int32)) dX3_readTrunk_15 (by decide) ?_
    refine V_aload_n (pc := 16) (i := 1) dX3_readTrunk_16 rfl rfl ?_
    obtain ⟨r3, h4, g2, e⟩ := ob2_some e
    refine V_callV (pc := 17) (bc := 0) (bs := 0) (mc := 0) (ms := 0) (st := []) (As := [.int (2 : Int32), .ref v1]) (a := v0) (h' := h4) (r := none) dX3_readTrunk_17 ml_X3_61 (ci := 3) rfl (of_decide_eq_true g1) rfl rfl (Nat.le_of_ble_eq_true rfl) (d' := 2) (by decide) (c_X3_begin (l := x.2.1) v0 (2 : Int32) v1 h g2) ?_
    refine V_aload_n (pc := 20) (i := 0) dX3_readTrunk_20 rfl rfl ?_
    refine V_dup (pc := 21) dX3_readTrunk_21 rfl ?_
    obtain ⟨g5, e⟩ := gd_some e
    refine V_getI (pc := 22) (ci := 3) (k := 4) dX3_readTrunk_22 fl_X3_22 rfl (of_decide_eq_true g5) ?_
    refine V_iconst (pc := 25) (v := (1 : Int32)) dX3_readTrunk_25 (by decide) ?_
    refine V_iadd (pc := 26) dX3_readTrunk_26 ?_
    refine V_putI (pc := 27) (ci := 3) (k := 4) dX3_readTrunk_27 fp_X3_22 rfl (of_decide_eq_true g5) ?_
    refine V_aload_n (pc := 30) (i := 0) dX3_readTrunk_30 rfl rfl ?_
    refine V_iconst (pc := 31) (v := (1 : Int32)) dX3_readTrunk_31 (by decide) ?_
    refine V_iconst (pc := 32) (v := (0 : Int32)) dX3_readTrunk_32 (by decide) ?_
    refine V_sipush (pc := 33) (v := (300 : Int32)) dX3_readTrunk_33 (by decide) ?_
    refine V_aload_n (pc := 36) (i := 1) dX3_readTrunk_36 rfl rfl ?_
    obtain ⟨r7, h8, g6, e⟩ := ob2_some e
    refine V_callV (pc := 37) (bc := 0) (bs := 0) (mc := 0) (ms := 0) (st := []) (As := [.int (1 : Int32), .int (0 : Int32), .int (300 : Int32), .ref v1]) (a := v0) (h' := h8) (r := some (.int r7)) dX3_readTrunk_37 ml_X3_65 (ci := 3) rfl (kd_sI (of_decide_eq_true g5)) rfl rfl (Nat.le_of_ble_eq_true rfl) (d' := 3) (by decide) (c_X3_keep (l := x.2.1) v0 (1 : Int32) (0 : Int32) (300 : Int32) v1 (setI h4 v0 4 ((zI h4 v0 4) + (1 : Int32))) g6) ?_
    refine V_if_eq (pc := 40) (tgt := 97) dX3_readTrunk_40 (by decide) (fun c31 => ?_) (fun c31 => ?_)
    · rw [if_pos c31] at e
      exact V_pick [] rfl (r_X3_readTrunk_b97 h8 e hF)
    · rw [if_neg c31] at e
      refine V_pick [0, 1] rfl ?_
      refine V_aload_n (pc := 43) (i := 1) dX3_readTrunk_43 rfl rfl ?_
      refine V_ldcS (pc := 44) (j := 6) (u := (6 : UInt32)) dX3_readTrunk_44 rfl (by decide) ?_
      obtain ⟨r11, h12, g10, e⟩ := ob2_some e
      obtain ⟨g13, e⟩ := gd_some e
      refine V_callV (pc := 46) (bc := 0) (bs := 0) (mc := 0) (ms := 0) (st := []) (As := [.float (6 : UInt32)]) (a := v1) (h' := h12) (r := some (.int r11)) dX3_readTrunk_46 ml_X3_71 (ci := 6) rfl (of_decide_eq_true g13) rfl rfl (Nat.le_of_ble_eq_true rfl) (d' := 5) (by decide) (c_X6_takeWord (l := x.2.1) v1 (6 : UInt32) h8 g10) ?_
      refine V_if_eq (pc := 49) (tgt := 97) dX3_readTrunk_49 (by decide) (fun c30 => ?_) (fun c30 => ?_)
      · rw [if_pos c30] at e
        exact V_pick [] rfl (r_X3_readTrunk_b97 h12 e hF)
      · rw [if_neg c30] at e
        refine V_pick [0, 1] rfl ?_
        refine V_aload_n (pc := 52) (i := 0) dX3_readTrunk_52 rfl rfl ?_
        refine V_iconst (pc := 53) (v := (2 : Int32)) dX3_readTrunk_53 (by decide) ?_
        refine V_aload_n (pc := 54) (i := 1) dX3_readTrunk_54 rfl rfl ?_
        obtain ⟨g14, e⟩ := gd_some e
        refine V_getI (pc := 55) (ci := 6) (k := 5) dX3_readTrunk_55 fl_X3_91 rfl (of_decide_eq_true g14) ?_
        refine V_sipush (pc := 58) (v := (300 : Int32)) dX3_readTrunk_58 (by decide) ?_
        refine V_aload_n (pc := 61) (i := 1) dX3_readTrunk_61 rfl rfl ?_
        obtain ⟨r16, h17, g15, e⟩ := ob2_some e
        obtain ⟨g18, e⟩ := gd_some e
        refine V_callV (pc := 62) (bc := 0) (bs := 0) (mc := 0) (ms := 0) (st := []) (As := [.int (2 : Int32), .int (zI h12 v1 5), .int (300 : Int32), .ref v1]) (a := v0) (h' := h17) (r := some (.int r16)) dX3_readTrunk_62 ml_X3_65 (ci := 3) rfl (of_decide_eq_true g18) rfl rfl (Nat.le_of_ble_eq_true rfl) (d' := 3) (by decide) (c_X3_keep (l := x.2.1) v0 (2 : Int32) (zI h12 v1 5) (300 : Int32) v1 h12 g15) ?_
        refine V_if_eq (pc := 65) (tgt := 97) dX3_readTrunk_65 (by decide) (fun c29 => ?_) (fun c29 => ?_)
        · rw [if_pos c29] at e
          exact V_pick [] rfl (r_X3_readTrunk_b97 h17 e hF)
        · rw [if_neg c29] at e
          refine V_pick [0, 1] rfl ?_
          refine V_aload_n (pc := 68) (i := 1) dX3_readTrunk_68 rfl rfl ?_
          refine V_ldcS (pc := 69) (j := 4) (u := (4 : UInt32)) dX3_readTrunk_69 rfl (by decide) ?_
          obtain ⟨r20, h21, g19, e⟩ := ob2_some e
          obtain ⟨g22, e⟩ := gd_some e
          refine V_callV (pc := 71) (bc := 0) (bs := 0) (mc := 0) (ms := 0) (st := []) (As := [.float (4 : UInt32)]) (a := v1) (h' := h21) (r := some (.int r20)) dX3_readTrunk_71 ml_X3_71 (ci := 6) rfl (of_decide_eq_true g22) rfl rfl (Nat.le_of_ble_eq_true rfl) (d' := 5) (by decide) (c_X6_takeWord (l := x.2.1) v1 (4 : UInt32) h17 g19) ?_
          refine V_if_eq (pc := 74) (tgt := 97) dX3_readTrunk_74 (by decide) (fun c28 => ?_) (fun c28 => ?_)
          · rw [if_pos c28] at e
            exact V_pick [] rfl (r_X3_readTrunk_b97 h21 e hF)
          · rw [if_neg c28] at e
            refine V_pick [0, 1] rfl ?_
            refine V_aload_n (pc := 77) (i := 0) dX3_readTrunk_77 rfl rfl ?_
            refine V_iconst (pc := 78) (v := (3 : Int32)) dX3_readTrunk_78 (by decide) ?_
            refine V_iconst (pc := 79) (v := (0 : Int32)) dX3_readTrunk_79 (by decide) ?_
            refine V_aload_n (pc := 80) (i := 0) dX3_readTrunk_80 rfl rfl ?_
            obtain ⟨g23, e⟩ := gd_some e
            refine V_getI (pc := 81) (ci := 3) (k := 2) dX3_readTrunk_81 fl_X3_15 rfl (of_decide_eq_true g23) ?_
            refine V_iconst (pc := 84) (v := (1 : Int32)) dX3_readTrunk_84 (by decide) ?_
            refine V_isub (pc := 85) dX3_readTrunk_85 ?_
            refine V_aload_n (pc := 86) (i := 1) dX3_readTrunk_86 rfl rfl ?_
            obtain ⟨r25, h26, g24, e⟩ := ob2_some e
            refine V_callV (pc := 87) (bc := 0) (bs := 0) (mc := 0) (ms := 0) (st := []) (As := [.int (3 : Int32), .int (0 : Int32), .int ((zI h21 v0 2) - (1 : Int32)), .ref v1]) (a := v0) (h' := h26) (r := some (.int r25)) dX3_readTrunk_87 ml_X3_65 (ci := 3) rfl (of_decide_eq_true g23) rfl rfl (Nat.le_of_ble_eq_true rfl) (d' := 3) (by decide) (c_X3_keep (l := x.2.1) v0 (3 : Int32) (0 : Int32) ((zI h21 v0 2) - (1 : Int32)) v1 h21 g24) ?_
            refine V_if_eq (pc := 90) (tgt := 97) dX3_readTrunk_90 (by decide) (fun c27 => ?_) (fun c27 => ?_)
            · rw [if_pos c27] at e
              exact V_pick [] rfl (r_X3_readTrunk_b97 h26 e hF)
            · rw [if_neg c27] at e
              refine V_pick [] rfl ?_
              refine V_iconst (pc := 93) (v := (1 : Int32)) dX3_readTrunk_93 (by decide) ?_
              refine V_goto (pc := 94) (tgt := 98) dX3_readTrunk_94 (by decide) ?_
              exact V_pick [] rfl (r_X3_readTrunk_b98 (1 : Int32) h26 e hF)
  · rw [if_neg c37] at e
    refine V_pick [1] rfl ?_
    refine V_aload_n (pc := 9) (i := 1) dX3_readTrunk_9 rfl rfl ?_
    obtain ⟨r33, h34, g32, e⟩ := ob2_some e
    obtain ⟨g35, e⟩ := gd_some e
    refine V_callV (pc := 10) (bc := 0) (bs := 0) (mc := 0) (ms := 0) (st := []) (As := []) (a := v1) (h' := h34) (r := some (.int r33)) dX3_readTrunk_10 ml_X3_85 (ci := 6) rfl (of_decide_eq_true g35) rfl rfl (Nat.le_of_ble_eq_true rfl) (d' := 0) (by decide) (c_X6_refuse (l := x.2.1) v1 h g32) ?_
    obtain ⟨g36, e⟩ := gd_some e
    cases e
    exact V_zret (pc := 13) dX3_readTrunk_13 (z01 (of_decide_eq_true g36)) hF
def F_X3_readTrunk (v0 : Nat) (v1 : Nat) (h : Hp) : Option (Int32 × Hp) := F_X3_readTrunk_b0 v0 v1 h
theorem c_X3_readTrunk {l : Launch} (v0 : Nat) (v1 : Nat) (h : Hp) {r : Int32} {hz : Hp} (e : F_X3_readTrunk v0 v1 h = some (r, hz)) : Ct l yX3_readTrunk M_X3_readTrunk (some .boolean) 6 [.ref v0, .ref v1] h 0 0 (some (.int r)) hz :=
  Ct_of rfl rfl (fun q => by cases q) (Nat.le_of_ble_eq_true rfl) (fun x _ hF => V_pick [0, 1] rfl (r_X3_readTrunk_b0 v0 v1 h e hF))
theorem dX3_tellTo_0 : decode cX3_tellTo 0 = .ok (.iconst 0, 1) := by decide +kernel
theorem dX3_tellTo_1 : decode cX3_tellTo 1 = .ok (.istore_n 2, 1) := by decide +kernel
theorem dX3_tellTo_2 : decode cX3_tellTo 2 = .ok (.iload_n 2, 1) := by decide +kernel
theorem dX3_tellTo_3 : decode cX3_tellTo 3 = .ok (.aload_n 0, 1) := by decide +kernel
theorem dX3_tellTo_4 : decode cX3_tellTo 4 = .ok (.getfield 105, 3) := by decide +kernel
theorem dX3_tellTo_7 : decode cX3_tellTo 7 = .ok (.if_icmp .ge 53, 3) := by decide +kernel
theorem dX3_tellTo_10 : decode cX3_tellTo 10 = .ok (.iload_n 2, 1) := by decide +kernel
theorem dX3_tellTo_11 : decode cX3_tellTo 11 = .ok (.bipush 14, 2) := by decide +kernel
theorem dX3_tellTo_13 : decode cX3_tellTo 13 = .ok (.if_icmp .ge 47, 3) := by decide +kernel
theorem dX3_tellTo_16 : decode cX3_tellTo 16 = .ok (.iload_n 2, 1) := by decide +kernel
theorem dX3_tellTo_17 : decode cX3_tellTo 17 = .ok (.iconst 4, 1) := by decide +kernel
theorem dX3_tellTo_18 : decode cX3_tellTo 18 = .ok (.imul, 1) := by decide +kernel
theorem dX3_tellTo_19 : decode cX3_tellTo 19 = .ok (.istore_n 3, 1) := by decide +kernel
theorem dX3_tellTo_20 : decode cX3_tellTo 20 = .ok (.aload_n 1, 1) := by decide +kernel
theorem dX3_tellTo_21 : decode cX3_tellTo 21 = .ok (.aload_n 0, 1) := by decide +kernel
theorem dX3_tellTo_22 : decode cX3_tellTo 22 = .ok (.getfield 11, 3) := by decide +kernel
theorem dX3_tellTo_25 : decode cX3_tellTo 25 = .ok (.iload_n 3, 1) := by decide +kernel
theorem dX3_tellTo_26 : decode cX3_tellTo 26 = .ok (.iaload, 1) := by decide +kernel
theorem dX3_tellTo_27 : decode cX3_tellTo 27 = .ok (.aload_n 0, 1) := by decide +kernel
theorem dX3_tellTo_28 : decode cX3_tellTo 28 = .ok (.getfield 11, 3) := by decide +kernel
theorem dX3_tellTo_31 : decode cX3_tellTo 31 = .ok (.iload_n 3, 1) := by decide +kernel
theorem dX3_tellTo_32 : decode cX3_tellTo 32 = .ok (.iconst 1, 1) := by decide +kernel
theorem dX3_tellTo_33 : decode cX3_tellTo 33 = .ok (.iadd, 1) := by decide +kernel
theorem dX3_tellTo_34 : decode cX3_tellTo 34 = .ok (.iaload, 1) := by decide +kernel
theorem dX3_tellTo_35 : decode cX3_tellTo 35 = .ok (.aload_n 0, 1) := by decide +kernel
theorem dX3_tellTo_36 : decode cX3_tellTo 36 = .ok (.getfield 11, 3) := by decide +kernel
theorem dX3_tellTo_39 : decode cX3_tellTo 39 = .ok (.iload_n 3, 1) := by decide +kernel
theorem dX3_tellTo_40 : decode cX3_tellTo 40 = .ok (.iconst 2, 1) := by decide +kernel
theorem dX3_tellTo_41 : decode cX3_tellTo 41 = .ok (.iadd, 1) := by decide +kernel
theorem dX3_tellTo_42 : decode cX3_tellTo 42 = .ok (.iaload, 1) := by decide +kernel
theorem dX3_tellTo_43 : decode cX3_tellTo 43 = .ok (.aload_n 0, 1) := by decide +kernel
theorem dX3_tellTo_44 : decode cX3_tellTo 44 = .ok (.getfield 11, 3) := by decide +kernel
theorem dX3_tellTo_47 : decode cX3_tellTo 47 = .ok (.iload_n 3, 1) := by decide +kernel
theorem dX3_tellTo_48 : decode cX3_tellTo 48 = .ok (.iconst 3, 1) := by decide +kernel
theorem dX3_tellTo_49 : decode cX3_tellTo 49 = .ok (.iadd, 1) := by decide +kernel
theorem dX3_tellTo_50 : decode cX3_tellTo 50 = .ok (.iaload, 1) := by decide +kernel
theorem dX3_tellTo_51 : decode cX3_tellTo 51 = .ok (.invokestatic 108, 3) := by decide +kernel
theorem dX3_tellTo_54 : decode cX3_tellTo 54 = .ok (.iinc 2 1, 3) := by decide +kernel
theorem dX3_tellTo_57 : decode cX3_tellTo 57 = .ok (.goto (-55), 3) := by decide +kernel
theorem dX3_tellTo_60 : decode cX3_tellTo 60 = .ok (.return_, 1) := by decide +kernel
set_option maxRecDepth 100000 in
def F_X3_tellTo_l2 (v0 : Nat) (v1 : Nat) (v2 : Int32) (h : Hp) : Option ((Int32 × Hp) ⊕ Hp) :=
  gd (decide (kd h v0 = 3)) <| (if (zI h v0 0) ≤ v2 then some (.inr h) else (if (14 : Int32) ≤ v2 then some (.inr h) else ob (zR h v0 1) fun q2 => gd (decide (kd h q2 = 13)) <| gd (ix (v2 * (4 : Int32)) (zl h q2)) <| ob (zR h v0 1) fun q6 => gd (decide (kd h q6 = 13)) <| gd (ix ((v2 * (4 : Int32)) + (1 : Int32)) (zl h q6)) <| ob (zR h v0 1) fun q10 => gd (decide (kd h q10 = 13)) <| gd (ix ((v2 * (4 : Int32)) + (2 : Int32)) (zl h q10)) <| ob (zR h v0 1) fun q14 => gd (decide (kd h q14 = 13)) <| gd (ix ((v2 * (4 : Int32)) + (3 : Int32)) (zl h q14)) <| ob2 (F_X3_tellLine v1 (zI h q2 (v2 * (4 : Int32)).toNatClampNeg) (zI h q6 ((v2 * (4 : Int32)) + (1 : Int32)).toNatClampNeg) (zI h q10 ((v2 * (4 : Int32)) + (2 : Int32)).toNatClampNeg) (zI h q14 ((v2 * (4 : Int32)) + (3 : Int32)).toNatClampNeg) h) fun _ h20 => some (.inl (v2 + (1 : Int32), h20))))
set_option maxHeartbeats 4000000 in
set_option maxRecDepth 100000 in
theorem r_X3_tellTo_l2 (v0 : Nat) (v1 : Nat) (v2 : Int32) (h : Hp) {x : Cx} {o : ((Int32 × Hp) ⊕ Hp)} (e : F_X3_tellTo_l2 v0 v1 v2 h = some o) (kI : ∀ z, o = .inl z → V M_X3_tellTo x 2 2 [(0, .ref v0), (1, .ref v1), (2, .int z.1)] [] z.2 0 0) (kE60 : ∀ z : Hp, o = .inr z → V M_X3_tellTo x 2 60 [] [] z 0 0) : V M_X3_tellTo x 2 2 [(0, .ref v0), (1, .ref v1), (2, .int v2)] [] h 0 0 := by
  unfold F_X3_tellTo_l2 at e
  refine V_iload_n (pc := 2) (i := 2) dX3_tellTo_2 rfl rfl ?_
  refine V_aload_n (pc := 3) (i := 0) dX3_tellTo_3 rfl rfl ?_
  obtain ⟨g1, e⟩ := gd_some e
  refine V_getI (pc := 4) (ci := 3) (k := 0) dX3_tellTo_4 fl_X3_105 rfl (of_decide_eq_true g1) ?_
  refine V_icmp_ge (pc := 7) (tgt := 60) dX3_tellTo_7 (by decide) (fun c22 => ?_) (fun c22 => ?_)
  · rw [if_pos c22] at e
    cases e
    exact V_pick [] rfl (kE60 h rfl)
  · rw [if_neg c22] at e
    refine V_pick [0, 1, 2] rfl ?_
    refine V_iload_n (pc := 10) (i := 2) dX3_tellTo_10 rfl rfl ?_
    refine V_bipush (pc := 11) (v := (14 : Int32)) dX3_tellTo_11 (by decide) ?_
    refine V_icmp_ge (pc := 13) (tgt := 60) dX3_tellTo_13 (by decide) (fun c21 => ?_) (fun c21 => ?_)
    · rw [if_pos c21] at e
      cases e
      exact V_pick [] rfl (kE60 h rfl)
    · rw [if_neg c21] at e
      refine V_pick [0, 1, 2] rfl ?_
      refine V_iload_n (pc := 16) (i := 2) dX3_tellTo_16 rfl rfl ?_
      refine V_iconst (pc := 17) (v := (4 : Int32)) dX3_tellTo_17 (by decide) ?_
      refine V_imul (pc := 18) dX3_tellTo_18 ?_
      refine V_istore_n (pc := 19) (i := 3) (lv' := [(3, .int (v2 * (4 : Int32))), (0, .ref v0), (1, .ref v1), (2, .int v2)]) dX3_tellTo_19 rfl (by decide) rfl ?_
      refine V_aload_n (pc := 20) (i := 1) dX3_tellTo_20 rfl rfl ?_
      refine V_aload_n (pc := 21) (i := 0) dX3_tellTo_21 rfl rfl ?_
      obtain ⟨q2, g3, e⟩ := ob_some e
      refine V_getR (pc := 22) (ci := 3) (k := 1) (b := q2) dX3_tellTo_22 fl_X3_11 rfl (of_decide_eq_true g1) g3 ?_
      refine V_iload_n (pc := 25) (i := 3) dX3_tellTo_25 rfl rfl ?_
      obtain ⟨g4, e⟩ := gd_some e
      obtain ⟨g5, e⟩ := gd_some e
      refine V_iald (pc := 26) dX3_tellTo_26 (of_decide_eq_true g4) (ix_in g5) ?_
      refine V_aload_n (pc := 27) (i := 0) dX3_tellTo_27 rfl rfl ?_
      obtain ⟨q6, g7, e⟩ := ob_some e
      refine V_getR (pc := 28) (ci := 3) (k := 1) (b := q6) dX3_tellTo_28 fl_X3_11 rfl (of_decide_eq_true g1) g7 ?_
      refine V_iload_n (pc := 31) (i := 3) dX3_tellTo_31 rfl rfl ?_
      refine V_iconst (pc := 32) (v := (1 : Int32)) dX3_tellTo_32 (by decide) ?_
      refine V_iadd (pc := 33) dX3_tellTo_33 ?_
      obtain ⟨g8, e⟩ := gd_some e
      obtain ⟨g9, e⟩ := gd_some e
      refine V_iald (pc := 34) dX3_tellTo_34 (of_decide_eq_true g8) (ix_in g9) ?_
      refine V_aload_n (pc := 35) (i := 0) dX3_tellTo_35 rfl rfl ?_
      obtain ⟨q10, g11, e⟩ := ob_some e
      refine V_getR (pc := 36) (ci := 3) (k := 1) (b := q10) dX3_tellTo_36 fl_X3_11 rfl (of_decide_eq_true g1) g11 ?_
      refine V_iload_n (pc := 39) (i := 3) dX3_tellTo_39 rfl rfl ?_
      refine V_iconst (pc := 40) (v := (2 : Int32)) dX3_tellTo_40 (by decide) ?_
      refine V_iadd (pc := 41) dX3_tellTo_41 ?_
      obtain ⟨g12, e⟩ := gd_some e
      obtain ⟨g13, e⟩ := gd_some e
      refine V_iald (pc := 42) dX3_tellTo_42 (of_decide_eq_true g12) (ix_in g13) ?_
      refine V_aload_n (pc := 43) (i := 0) dX3_tellTo_43 rfl rfl ?_
      obtain ⟨q14, g15, e⟩ := ob_some e
      refine V_getR (pc := 44) (ci := 3) (k := 1) (b := q14) dX3_tellTo_44 fl_X3_11 rfl (of_decide_eq_true g1) g15 ?_
      refine V_iload_n (pc := 47) (i := 3) dX3_tellTo_47 rfl rfl ?_
      refine V_iconst (pc := 48) (v := (3 : Int32)) dX3_tellTo_48 (by decide) ?_
      refine V_iadd (pc := 49) dX3_tellTo_49 ?_
      obtain ⟨g16, e⟩ := gd_some e
      obtain ⟨g17, e⟩ := gd_some e
      refine V_iald (pc := 50) dX3_tellTo_50 (of_decide_eq_true g16) (ix_in g17) ?_
      obtain ⟨r19, h20, g18, e⟩ := ob2_some e
      refine V_callS (pc := 51) (bc := 0) (bs := 0) (mc := 0) (ms := 0) (st := []) (As := [.ref v1, .int (zI h q2 (v2 * (4 : Int32)).toNatClampNeg), .int (zI h q6 ((v2 * (4 : Int32)) + (1 : Int32)).toNatClampNeg), .int (zI h q10 ((v2 * (4 : Int32)) + (2 : Int32)).toNatClampNeg), .int (zI h q14 ((v2 * (4 : Int32)) + (3 : Int32)).toNatClampNeg)]) (h' := h20) (r := none) dX3_tellTo_51 ml_X3_108 rfl rfl (Nat.le_of_ble_eq_true rfl) (d' := 1) (by decide) (c_X3_tellLine (l := x.2.1) v1 (zI h q2 (v2 * (4 : Int32)).toNatClampNeg) (zI h q6 ((v2 * (4 : Int32)) + (1 : Int32)).toNatClampNeg) (zI h q10 ((v2 * (4 : Int32)) + (2 : Int32)).toNatClampNeg) (zI h q14 ((v2 * (4 : Int32)) + (3 : Int32)).toNatClampNeg) h g18) ?_
      refine V_iinc (pc := 54) (i := 2) (u := v2 + (1 : Int32)) (lv' := [(2, .int (v2 + (1 : Int32))), (3, .int (v2 * (4 : Int32))), (0, .ref v0), (1, .ref v1)]) dX3_tellTo_54 rfl rfl (by decide) rfl ?_
      refine V_goto (pc := 57) (tgt := 2) dX3_tellTo_57 (by decide) ?_
      cases e
      exact V_pick [2, 3, 0] rfl (kI (v2 + (1 : Int32), h20) rfl)
set_option maxRecDepth 100000 in
def F_X3_tellTo_b60  (h : Hp) : Option (Unit × Hp) :=
  some ((), h)
set_option maxHeartbeats 4000000 in
set_option maxRecDepth 100000 in
theorem r_X3_tellTo_b60  (h : Hp) {x : Cx} {r : Unit} {hz : Hp} (e : F_X3_tellTo_b60  h = some (r, hz)) (hF : Fin9 M_X3_tellTo x none none hz) : V M_X3_tellTo x 2 60 [] [] h 0 0 := by
  unfold F_X3_tellTo_b60 at e
  cases e
  exact V_vret (pc := 60) dX3_tellTo_60 hF
set_option maxRecDepth 100000 in
def F_X3_tellTo_b0 (v0 : Nat) (v1 : Nat) (h : Hp) : Option (Unit × Hp) :=
  ob (iter (fun z : Int32 × Hp => F_X3_tellTo_l2 v0 v1 z.1 z.2) FU ((0 : Int32), h)) (fun h23 => F_X3_tellTo_b60 h23)
set_option maxHeartbeats 4000000 in
set_option maxRecDepth 100000 in
theorem r_X3_tellTo_b0 (v0 : Nat) (v1 : Nat) (h : Hp) {x : Cx} {r : Unit} {hz : Hp} (e : F_X3_tellTo_b0 v0 v1 h = some (r, hz)) (hF : Fin9 M_X3_tellTo x none none hz) : V M_X3_tellTo x 2 0 [(0, .ref v0), (1, .ref v1)] [] h 0 0 := by
  unfold F_X3_tellTo_b0 at e
  refine V_iconst (pc := 0) (v := (0 : Int32)) dX3_tellTo_0 (by decide) ?_
  refine V_istore_n (pc := 1) (i := 2) (lv' := [(2, .int (0 : Int32)), (0, .ref v0), (1, .ref v1)]) dX3_tellTo_1 rfl (by decide) rfl ?_
  refine V_pick [1, 2, 0] rfl ?_
  obtain ⟨y24, g25, e⟩ := ob_some e
  refine iter_V (P := fun z : Int32 × Hp => V M_X3_tellTo x 2 2 [(0, .ref v0), (1, .ref v1), (2, .int z.1)] [] z.2 0 0) (E := fun z : Hp => V M_X3_tellTo x 2 60 [] [] z 0 0) (fun z o e9 k1 k2 => r_X3_tellTo_l2 v0 v1 z.1 z.2 e9 (fun z hz9 => k1 z hz9) (fun z hz9 => k2 _ hz9)) _ _ _ g25 ?_
  clear g25
  obtain ⟨h23, rfl⟩ : ∃ q, q = y24 := ⟨_, rfl⟩
  replace e : (F_X3_tellTo_b60 h23) = some (r, hz) := e
  show V M_X3_tellTo x 2 60 [] [] h23 0 0
  exact V_pick [] rfl (r_X3_tellTo_b60 h23 e hF)
def F_X3_tellTo (v0 : Nat) (v1 : Nat) (h : Hp) : Option (Unit × Hp) := F_X3_tellTo_b0 v0 v1 h
theorem c_X3_tellTo {l : Launch} (v0 : Nat) (v1 : Nat) (h : Hp) {r : Unit} {hz : Hp} (e : F_X3_tellTo v0 v1 h = some (r, hz)) : Ct l yX3_tellTo M_X3_tellTo none 2 [.ref v0, .ref v1] h 0 0 none hz :=
  Ct_of rfl rfl (fun q => by cases q) (Nat.le_of_ble_eq_true rfl) (fun x _ hF => V_pick [0, 1] rfl (r_X3_tellTo_b0 v0 v1 h e hF))
theorem dX4_bellAt_0 : decode cX4_bellAt 0 = .ok (.aload_n 2, 1) := by decide +kernel
theorem dX4_bellAt_1 : decode cX4_bellAt 1 = .ok (.aload_n 2, 1) := by decide +kernel
theorem dX4_bellAt_2 : decode cX4_bellAt 2 = .ok (.getfield 22, 3) := by decide +kernel
theorem dX4_bellAt_5 : decode cX4_bellAt 5 = .ok (.invokevirtual 27, 3) := by decide +kernel
theorem dX4_bellAt_8 : decode cX4_bellAt 8 = .ok (.istore_n 3, 1) := by decide +kernel
theorem dX4_bellAt_9 : decode cX4_bellAt 9 = .ok (.iconst (-1), 1) := by decide +kernel
theorem dX4_bellAt_10 : decode cX4_bellAt 10 = .ok (.istore 4, 2) := by decide +kernel
theorem dX4_bellAt_12 : decode cX4_bellAt 12 = .ok (.iconst 0, 1) := by decide +kernel
theorem dX4_bellAt_13 : decode cX4_bellAt 13 = .ok (.istore 5, 2) := by decide +kernel
theorem dX4_bellAt_15 : decode cX4_bellAt 15 = .ok (.iload 5, 2) := by decide +kernel
theorem dX4_bellAt_17 : decode cX4_bellAt 17 = .ok (.iload_n 1, 1) := by decide +kernel
theorem dX4_bellAt_18 : decode cX4_bellAt 18 = .ok (.if_icmp .gt 47, 3) := by decide +kernel
theorem dX4_bellAt_21 : decode cX4_bellAt 21 = .ok (.iload 5, 2) := by decide +kernel
theorem dX4_bellAt_23 : decode cX4_bellAt 23 = .ok (.ldc 59, 2) := by decide +kernel
theorem dX4_bellAt_25 : decode cX4_bellAt 25 = .ok (.if_icmp .ge 40, 3) := by decide +kernel
theorem dX4_bellAt_28 : decode cX4_bellAt 28 = .ok (.aload_n 0, 1) := by decide +kernel
theorem dX4_bellAt_29 : decode cX4_bellAt 29 = .ok (.iload_n 3, 1) := by decide +kernel
theorem dX4_bellAt_30 : decode cX4_bellAt 30 = .ok (.aload_n 2, 1) := by decide +kernel
theorem dX4_bellAt_31 : decode cX4_bellAt 31 = .ok (.invokevirtual 60, 3) := by decide +kernel
theorem dX4_bellAt_34 : decode cX4_bellAt 34 = .ok (.istore 4, 2) := by decide +kernel
theorem dX4_bellAt_36 : decode cX4_bellAt 36 = .ok (.iload 4, 2) := by decide +kernel
theorem dX4_bellAt_38 : decode cX4_bellAt 38 = .ok (.iconst (-1), 1) := by decide +kernel
theorem dX4_bellAt_39 : decode cX4_bellAt 39 = .ok (.if_icmp .ne 5, 3) := by decide +kernel
theorem dX4_bellAt_42 : decode cX4_bellAt 42 = .ok (.iconst (-1), 1) := by decide +kernel
theorem dX4_bellAt_43 : decode cX4_bellAt 43 = .ok (.ireturn, 1) := by decide +kernel
theorem dX4_bellAt_44 : decode cX4_bellAt 44 = .ok (.iload_n 3, 1) := by decide +kernel
theorem dX4_bellAt_45 : decode cX4_bellAt 45 = .ok (.iload 4, 2) := by decide +kernel
theorem dX4_bellAt_47 : decode cX4_bellAt 47 = .ok (.bipush 8, 2) := by decide +kernel
theorem dX4_bellAt_49 : decode cX4_bellAt 49 = .ok (.idiv, 1) := by decide +kernel
theorem dX4_bellAt_50 : decode cX4_bellAt 50 = .ok (.iload 4, 2) := by decide +kernel
theorem dX4_bellAt_52 : decode cX4_bellAt 52 = .ok (.bipush 8, 2) := by decide +kernel
theorem dX4_bellAt_54 : decode cX4_bellAt 54 = .ok (.irem, 1) := by decide +kernel
theorem dX4_bellAt_55 : decode cX4_bellAt 55 = .ok (.invokestatic 64, 3) := by decide +kernel
theorem dX4_bellAt_58 : decode cX4_bellAt 58 = .ok (.istore_n 3, 1) := by decide +kernel
theorem dX4_bellAt_59 : decode cX4_bellAt 59 = .ok (.iinc 5 1, 3) := by decide +kernel
theorem dX4_bellAt_62 : decode cX4_bellAt 62 = .ok (.goto (-47), 3) := by decide +kernel
theorem dX4_bellAt_65 : decode cX4_bellAt 65 = .ok (.iload 4, 2) := by decide +kernel
theorem dX4_bellAt_67 : decode cX4_bellAt 67 = .ok (.ireturn, 1) := by decide +kernel
set_option maxRecDepth 100000 in
def F_X4_bellAt_l15 (v0 : Nat) (v1 : Int32) (v2 : Nat) (v3 : Int32) (v4 : Int32) (v5 : Int32) (h : Hp) : Option ((Int32 × Int32 × Int32) ⊕ (Int32 ⊕ Unit)) :=
  (if v1 < v5 then some (.inr (.inl v4)) else (if (32768 : Int32) ≤ v5 then some (.inr (.inl v4)) else ob (F_X4_firstBell v0 v3 v2 h) fun r7 => gd (decide (kd h v0 = 4)) <| (if r7 = (-1 : Int32) then some (.inr (.inr ())) else ob (F_X4_sent v3 (r7 / (8 : Int32)) (r7 - r7 / (8 : Int32) * (8 : Int32)) h) fun r10 => some (.inl (r10, r7, v5 + (1 : Int32))))))
set_option maxHeartbeats 4000000 in
set_option maxRecDepth 100000 in
theorem r_X4_bellAt_l15 (v0 : Nat) (v1 : Int32) (v2 : Nat) (v3 : Int32) (v4 : Int32) (v5 : Int32) (h : Hp) {x : Cx} {o : ((Int32 × Int32 × Int32) ⊕ (Int32 ⊕ Unit))} (e : F_X4_bellAt_l15 v0 v1 v2 v3 v4 v5 h = some o) (kI : ∀ z, o = .inl z → V M_X4_bellAt x 2 15 [(0, .ref v0), (1, .int v1), (2, .ref v2), (3, .int z.1), (4, .int z.2.1), (5, .int z.2.2)] [] h 0 0) (kE65 : ∀ z : Int32, o = .inr (.inl z) → V M_X4_bellAt x 2 65 [(4, .int z)] [] h 0 0) (kE42 : ∀ z : Unit, o = .inr (.inr z) → V M_X4_bellAt x 2 42 [] [] h 0 0) : V M_X4_bellAt x 2 15 [(0, .ref v0), (1, .int v1), (2, .ref v2), (3, .int v3), (4, .int v4), (5, .int v5)] [] h 0 0 := by
  unfold F_X4_bellAt_l15 at e
  refine V_iload (pc := 15) (i := 5) dX4_bellAt_15 rfl ?_
  refine V_iload_n (pc := 17) (i := 1) dX4_bellAt_17 rfl rfl ?_
  refine V_icmp_gt (pc := 18) (tgt := 65) dX4_bellAt_18 (by decide) (fun c13 => ?_) (fun c13 => ?_)
  · rw [if_pos c13] at e
    cases e
    exact V_pick [4] rfl (kE65 v4 rfl)
  · rw [if_neg c13] at e
    refine V_pick [0, 1, 2, 3, 4, 5] rfl ?_
    refine V_iload (pc := 21) (i := 5) dX4_bellAt_21 rfl ?_
    refine V_ldc (pc := 23) (v := (32768 : Int32)) dX4_bellAt_23 (wk_X4_59) ?_
    refine V_icmp_ge (pc := 25) (tgt := 65) dX4_bellAt_25 (by decide) (fun c12 => ?_) (fun c12 => ?_)
    · rw [if_pos c12] at e
      cases e
      exact V_pick [4] rfl (kE65 v4 rfl)
    · rw [if_neg c12] at e
      refine V_pick [0, 1, 2, 3, 5] rfl ?_
      refine V_aload_n (pc := 28) (i := 0) dX4_bellAt_28 rfl rfl ?_
      refine V_iload_n (pc := 29) (i := 3) dX4_bellAt_29 rfl rfl ?_
      refine V_aload_n (pc := 30) (i := 2) dX4_bellAt_30 rfl rfl ?_
      obtain ⟨r7, g6, e⟩ := ob_some e
      obtain ⟨g8, e⟩ := gd_some e
      refine V_callV (pc := 31) (bc := 0) (bs := 0) (mc := 0) (ms := 0) (st := []) (As := [.int v3, .ref v2]) (a := v0) (h' := h) (r := some (.int r7)) dX4_bellAt_31 ml_X4_60 (ci := 4) rfl (of_decide_eq_true g8) rfl rfl (Nat.le_of_ble_eq_true rfl) (d' := 1) (by decide) (c_X4_firstBell (l := x.2.1) v0 v3 v2 h g6) ?_
      refine V_istore (pc := 34) (i := 4) (lv' := [(4, .int r7), (0, .ref v0), (1, .int v1), (2, .ref v2), (3, .int v3), (5, .int v5)]) dX4_bellAt_34 (by decide) rfl ?_
      refine V_iload (pc := 36) (i := 4) dX4_bellAt_36 rfl ?_
      refine V_iconst (pc := 38) (v := (-1 : Int32)) dX4_bellAt_38 (by decide) ?_
      refine V_icmp_ne (pc := 39) (tgt := 44) dX4_bellAt_39 (by decide) (fun c11 => ?_) (fun c11 => ?_)
      · rw [if_neg c11] at e
        refine V_pick [1, 2, 3, 4, 0, 5] rfl ?_
        refine V_iload_n (pc := 44) (i := 3) dX4_bellAt_44 rfl rfl ?_
        refine V_iload (pc := 45) (i := 4) dX4_bellAt_45 rfl ?_
        refine V_bipush (pc := 47) (v := (8 : Int32)) dX4_bellAt_47 (by decide) ?_
        refine V_idiv (pc := 49) dX4_bellAt_49 (by decide) ?_
        refine V_iload (pc := 50) (i := 4) dX4_bellAt_50 rfl ?_
        refine V_bipush (pc := 52) (v := (8 : Int32)) dX4_bellAt_52 (by decide) ?_
        refine V_irem (pc := 54) dX4_bellAt_54 (by decide) ?_
        obtain ⟨r10, g9, e⟩ := ob_some e
        refine V_callS (pc := 55) (bc := 0) (bs := 0) (mc := 0) (ms := 0) (st := []) (As := [.int v3, .int (r7 / (8 : Int32)), .int (r7 - r7 / (8 : Int32) * (8 : Int32))]) (h' := h) (r := some (.int r10)) dX4_bellAt_55 ml_X4_64 rfl rfl (Nat.le_of_ble_eq_true rfl) (d' := 0) (by decide) (c_X4_sent (l := x.2.1) v3 (r7 / (8 : Int32)) (r7 - r7 / (8 : Int32) * (8 : Int32)) h g9) ?_
        refine V_istore_n (pc := 58) (i := 3) (lv' := [(3, .int r10), (0, .ref v0), (1, .int v1), (2, .ref v2), (4, .int r7), (5, .int v5)]) dX4_bellAt_58 rfl (by decide) rfl ?_
        refine V_iinc (pc := 59) (i := 5) (u := v5 + (1 : Int32)) (lv' := [(5, .int (v5 + (1 : Int32))), (3, .int r10), (0, .ref v0), (1, .int v1), (2, .ref v2), (4, .int r7)]) dX4_bellAt_59 rfl rfl (by decide) rfl ?_
        refine V_goto (pc := 62) (tgt := 15) dX4_bellAt_62 (by decide) ?_
        cases e
        exact V_pick [2, 3, 4, 1, 5, 0] rfl (kI (r10, r7, v5 + (1 : Int32)) rfl)
      · rw [if_pos c11] at e
        cases e
        exact V_pick [] rfl (kE42 () rfl)
set_option maxRecDepth 100000 in
def F_X4_bellAt_b65 (v4 : Int32) (h : Hp) : Option Int32 :=
  some v4
set_option maxHeartbeats 4000000 in
set_option maxRecDepth 100000 in
theorem r_X4_bellAt_b65 (v4 : Int32) (h : Hp) {x : Cx} {r : Int32} (e : F_X4_bellAt_b65 v4 h = some r) (hF : Fin9 M_X4_bellAt x (some .int) (some (.int r)) h) : V M_X4_bellAt x 2 65 [(4, .int v4)] [] h 0 0 := by
  unfold F_X4_bellAt_b65 at e
  refine V_iload (pc := 65) (i := 4) dX4_bellAt_65 rfl ?_
  cases e
  exact V_iret (pc := 67) dX4_bellAt_67 hF
set_option maxRecDepth 100000 in
def F_X4_bellAt_b0 (v0 : Nat) (v1 : Int32) (v2 : Nat) (h : Hp) : Option Int32 :=
  gd (decide (kd h v2 = 2)) <| ob (zR h v2 7) fun q2 => ob (F_X2_asNumber v2 q2 h) fun r5 => ob (iter (fun z : Int32 × Int32 × Int32 => F_X4_bellAt_l15 v0 v1 v2 z.1 z.2.1 z.2.2 h) FU (r5, (-1 : Int32), (0 : Int32))) (fun z => sm z (fun w14 => F_X4_bellAt_b65 w14 h) (fun _ => some (-1 : Int32)))
set_option maxHeartbeats 4000000 in
set_option maxRecDepth 100000 in
theorem r_X4_bellAt_b0 (v0 : Nat) (v1 : Int32) (v2 : Nat) (h : Hp) {x : Cx} {r : Int32} (e : F_X4_bellAt_b0 v0 v1 v2 h = some r) (hF : Fin9 M_X4_bellAt x (some .int) (some (.int r)) h) : V M_X4_bellAt x 2 0 [(0, .ref v0), (1, .int v1), (2, .ref v2)] [] h 0 0 := by
  unfold F_X4_bellAt_b0 at e
  refine V_aload_n (pc := 0) (i := 2) dX4_bellAt_0 rfl rfl ?_
  refine V_aload_n (pc := 1) (i := 2) dX4_bellAt_1 rfl rfl ?_
  obtain ⟨g1, e⟩ := gd_some e
  obtain ⟨q2, g3, e⟩ := ob_some e
  refine V_getR (pc := 2) (ci := 2) (k := 7) (b := q2) dX4_bellAt_2 fl_X4_22 rfl (of_decide_eq_true g1) g3 ?_
  obtain ⟨r5, g4, e⟩ := ob_some e
  refine V_callV (pc := 5) (bc := 0) (bs := 0) (mc := 0) (ms := 0) (st := []) (As := [.ref q2]) (a := v2) (h' := h) (r := some (.int r5)) dX4_bellAt_5 ml_X4_27 (ci := 2) rfl (of_decide_eq_true g1) rfl rfl (Nat.le_of_ble_eq_true rfl) (d' := 0) (by decide) (c_X2_asNumber (l := x.2.1) v2 q2 h g4) ?_
  refine V_istore_n (pc := 8) (i := 3) (lv' := [(3, .int r5), (0, .ref v0), (1, .int v1), (2, .ref v2)]) dX4_bellAt_8 rfl (by decide) rfl ?_
  refine V_iconst (pc := 9) (v := (-1 : Int32)) dX4_bellAt_9 (by decide) ?_
  refine V_istore (pc := 10) (i := 4) (lv' := [(4, .int (-1 : Int32)), (3, .int r5), (0, .ref v0), (1, .int v1), (2, .ref v2)]) dX4_bellAt_10 (by decide) rfl ?_
  refine V_iconst (pc := 12) (v := (0 : Int32)) dX4_bellAt_12 (by decide) ?_
  refine V_istore (pc := 13) (i := 5) (lv' := [(5, .int (0 : Int32)), (4, .int (-1 : Int32)), (3, .int r5), (0, .ref v0), (1, .int v1), (2, .ref v2)]) dX4_bellAt_13 (by decide) rfl ?_
  refine V_pick [3, 4, 5, 2, 1, 0] rfl ?_
  obtain ⟨y15, g16, e⟩ := ob_some e
  refine iter_V (P := fun z : Int32 × Int32 × Int32 => V M_X4_bellAt x 2 15 [(0, .ref v0), (1, .int v1), (2, .ref v2), (3, .int z.1), (4, .int z.2.1), (5, .int z.2.2)] [] h 0 0) (E := fun z => Sum.elim (fun z : Int32 => V M_X4_bellAt x 2 65 [(4, .int z)] [] h 0 0) (fun z : Unit => V M_X4_bellAt x 2 42 [] [] h 0 0) z) (fun z o e9 k1 k2 => r_X4_bellAt_l15 v0 v1 v2 z.1 z.2.1 z.2.2 h e9 (fun z hz9 => k1 z hz9) (fun z hz9 => k2 _ hz9) (fun z hz9 => k2 _ hz9)) _ _ _ g16 ?_
  clear g16
  rcases y15 with y17 | y18
  · obtain ⟨w14, rfl⟩ : ∃ q, q = y17 := ⟨_, rfl⟩
    replace e : (F_X4_bellAt_b65 w14 h) = some r := e
    show V M_X4_bellAt x 2 65 [(4, .int w14)] [] h 0 0
    exact V_pick [0] rfl (r_X4_bellAt_b65 w14 h e hF)
  · replace e : (some (-1 : Int32)) = some r := e
    show V M_X4_bellAt x 2 42 [] [] h 0 0
    refine V_iconst (pc := 42) (v := (-1 : Int32)) dX4_bellAt_42 (by decide) ?_
    cases e
    exact V_iret (pc := 43) dX4_bellAt_43 hF
def F_X4_bellAt (v0 : Nat) (v1 : Int32) (v2 : Nat) (h : Hp) : Option Int32 := F_X4_bellAt_b0 v0 v1 v2 h
theorem c_X4_bellAt {l : Launch} (v0 : Nat) (v1 : Int32) (v2 : Nat) (h : Hp) {r : Int32} (e : F_X4_bellAt v0 v1 v2 h = some r) : Ct l yX4_bellAt M_X4_bellAt (some .int) 2 [.ref v0, .int v1, .ref v2] h 0 0 (some (.int r)) h :=
  Ct_of rfl rfl (fun q => by cases q) (Nat.le_of_ble_eq_true rfl) (fun x _ hF => V_pick [0, 1, 2] rfl (r_X4_bellAt_b0 v0 v1 v2 h e hF))
theorem dX4_openLevel_0 : decode cX4_openLevel 0 = .ok (.iconst 0, 1) := by decide +kernel
theorem dX4_openLevel_1 : decode cX4_openLevel 1 = .ok (.istore 4, 2) := by decide +kernel
theorem dX4_openLevel_3 : decode cX4_openLevel 3 = .ok (.iload 4, 2) := by decide +kernel
theorem dX4_openLevel_5 : decode cX4_openLevel 5 = .ok (.ldc 59, 2) := by decide +kernel
theorem dX4_openLevel_7 : decode cX4_openLevel 7 = .ok (.if_icmp .ge 54, 3) := by decide +kernel
theorem dX4_openLevel_10 : decode cX4_openLevel 10 = .ok (.aload_n 3, 1) := by decide +kernel
theorem dX4_openLevel_11 : decode cX4_openLevel 11 = .ok (.aload_n 2, 1) := by decide +kernel
theorem dX4_openLevel_12 : decode cX4_openLevel 12 = .ok (.invokevirtual 81, 3) := by decide +kernel
theorem dX4_openLevel_15 : decode cX4_openLevel 15 = .ok (.ifCond .eq 46, 3) := by decide +kernel
theorem dX4_openLevel_18 : decode cX4_openLevel 18 = .ok (.iload_n 1, 1) := by decide +kernel
theorem dX4_openLevel_19 : decode cX4_openLevel 19 = .ok (.aload_n 2, 1) := by decide +kernel
theorem dX4_openLevel_20 : decode cX4_openLevel 20 = .ok (.aload_n 3, 1) := by decide +kernel
theorem dX4_openLevel_21 : decode cX4_openLevel 21 = .ok (.getfield 85, 3) := by decide +kernel
theorem dX4_openLevel_24 : decode cX4_openLevel 24 = .ok (.invokevirtual 27, 3) := by decide +kernel
theorem dX4_openLevel_27 : decode cX4_openLevel 27 = .ok (.iadd, 1) := by decide +kernel
theorem dX4_openLevel_28 : decode cX4_openLevel 28 = .ok (.istore 5, 2) := by decide +kernel
theorem dX4_openLevel_30 : decode cX4_openLevel 30 = .ok (.aload_n 3, 1) := by decide +kernel
theorem dX4_openLevel_31 : decode cX4_openLevel 31 = .ok (.invokevirtual 86, 3) := by decide +kernel
theorem dX4_openLevel_34 : decode cX4_openLevel 34 = .ok (.ifCond .eq 21, 3) := by decide +kernel
theorem dX4_openLevel_37 : decode cX4_openLevel 37 = .ok (.iload 5, 2) := by decide +kernel
theorem dX4_openLevel_39 : decode cX4_openLevel 39 = .ok (.aload_n 0, 1) := by decide +kernel
theorem dX4_openLevel_40 : decode cX4_openLevel 40 = .ok (.getfield 9, 3) := by decide +kernel
theorem dX4_openLevel_43 : decode cX4_openLevel 43 = .ok (.arraylength, 1) := by decide +kernel
theorem dX4_openLevel_44 : decode cX4_openLevel 44 = .ok (.if_icmp .ge 11, 3) := by decide +kernel
theorem dX4_openLevel_47 : decode cX4_openLevel 47 = .ok (.aload_n 0, 1) := by decide +kernel
theorem dX4_openLevel_48 : decode cX4_openLevel 48 = .ok (.getfield 9, 3) := by decide +kernel
theorem dX4_openLevel_51 : decode cX4_openLevel 51 = .ok (.iload 5, 2) := by decide +kernel
theorem dX4_openLevel_53 : decode cX4_openLevel 53 = .ok (.iconst (-1), 1) := by decide +kernel
theorem dX4_openLevel_54 : decode cX4_openLevel 54 = .ok (.iastore, 1) := by decide +kernel
theorem dX4_openLevel_55 : decode cX4_openLevel 55 = .ok (.iinc 4 1, 3) := by decide +kernel
theorem dX4_openLevel_58 : decode cX4_openLevel 58 = .ok (.goto (-55), 3) := by decide +kernel
theorem dX4_openLevel_61 : decode cX4_openLevel 61 = .ok (.return_, 1) := by decide +kernel
set_option maxRecDepth 100000 in
def F_X4_openLevel_b55 (v0 : Nat) (v1 : Int32) (v2 : Nat) (v3 : Nat) (v4 : Int32) (h : Hp) : Option ((Int32 × Hp) ⊕ Hp) :=
  some (.inl (v4 + (1 : Int32), h))
set_option maxHeartbeats 4000000 in
set_option maxRecDepth 100000 in
theorem r_X4_openLevel_b55 (v0 : Nat) (v1 : Int32) (v2 : Nat) (v3 : Nat) (v4 : Int32) (h : Hp) {x : Cx} {o : ((Int32 × Hp) ⊕ Hp)} (e : F_X4_openLevel_b55 v0 v1 v2 v3 v4 h = some o) (kI : ∀ z, o = .inl z → V M_X4_openLevel x 2 3 [(0, .ref v0), (1, .int v1), (2, .ref v2), (3, .ref v3), (4, .int z.1)] [] z.2 0 0) (kE61 : ∀ z : Hp, o = .inr z → V M_X4_openLevel x 2 61 [] [] z 0 0) : V M_X4_openLevel x 2 55 [(0, .ref v0), (1, .int v1), (2, .ref v2), (3, .ref v3), (4, .int v4)] [] h 0 0 := by
  unfold F_X4_openLevel_b55 at e
  refine V_iinc (pc := 55) (i := 4) (u := v4 + (1 : Int32)) (lv' := [(4, .int (v4 + (1 : Int32))), (0, .ref v0), (1, .int v1), (2, .ref v2), (3, .ref v3)]) dX4_openLevel_55 rfl rfl (by decide) rfl ?_
  refine V_goto (pc := 58) (tgt := 3) dX4_openLevel_58 (by decide) ?_
  cases e
  exact V_pick [1, 2, 3, 4, 0] rfl (kI (v4 + (1 : Int32), h) rfl)
set_option maxRecDepth 100000 in
def F_X4_openLevel_l3 (v0 : Nat) (v1 : Int32) (v2 : Nat) (v3 : Nat) (v4 : Int32) (h : Hp) : Option ((Int32 × Hp) ⊕ Hp) :=
  (if (32768 : Int32) ≤ v4 then some (.inr h) else ob2 (F_X9_advance v3 v2 h) fun r2 h3 => gd (decide (kd h v3 = 8)) <| (if r2 = 0 then some (.inr h3) else gd (decide (kd h3 v3 = 8)) <| ob (zR h3 v3 0) fun q6 => ob (F_X2_asNumber v2 q6 h3) fun r9 => gd (decide (kd h3 v2 = 2)) <| ob (F_X9_isLevelNow v3 h3) fun r12 => (if r12 = 0 then F_X4_openLevel_b55 v0 v1 v2 v3 v4 h3 else gd (decide (kd h3 v0 = 4)) <| ob (zR h3 v0 0) fun q14 => gd (decide (kd h3 q14 = 13)) <| (if (Int32.ofNat (zl h3 q14)) ≤ (v1 + r9) then F_X4_openLevel_b55 v0 v1 v2 v3 v4 h3 else ob (zR h3 v0 0) fun q17 => gd (decide (kd h3 q17 = 13)) <| gd (ix (v1 + r9) (zl h3 q17)) <| F_X4_openLevel_b55 v0 v1 v2 v3 v4 (setI h3 q17 (v1 + r9).toNatClampNeg (-1 : Int32))))))
set_option maxHeartbeats 4000000 in
set_option maxRecDepth 100000 in
theorem r_X4_openLevel_l3 (v0 : Nat) (v1 : Int32) (v2 : Nat) (v3 : Nat) (v4 : Int32) (h : Hp) {x : Cx} {o : ((Int32 × Hp) ⊕ Hp)} (e : F_X4_openLevel_l3 v0 v1 v2 v3 v4 h = some o) (kI : ∀ z, o = .inl z → V M_X4_openLevel x 2 3 [(0, .ref v0), (1, .int v1), (2, .ref v2), (3, .ref v3), (4, .int z.1)] [] z.2 0 0) (kE61 : ∀ z : Hp, o = .inr z → V M_X4_openLevel x 2 61 [] [] z 0 0) : V M_X4_openLevel x 2 3 [(0, .ref v0), (1, .int v1), (2, .ref v2), (3, .ref v3), (4, .int v4)] [] h 0 0 := by
  unfold F_X4_openLevel_l3 at e
  refine V_iload (pc := 3) (i := 4) dX4_openLevel_3 rfl ?_
  refine V_ldc (pc := 5) (v := (32768 : Int32)) dX4_openLevel_5 (wk_X4_59) ?_
  refine V_icmp_ge (pc := 7) (tgt := 61) dX4_openLevel_7 (by decide) (fun c24 => ?_) (fun c24 => ?_)
  · rw [if_pos c24] at e
    cases e
    exact V_pick [] rfl (kE61 h rfl)
  · rw [if_neg c24] at e
    refine V_pick [0, 1, 2, 3, 4] rfl ?_
    refine V_aload_n (pc := 10) (i := 3) dX4_openLevel_10 rfl rfl ?_
    refine V_aload_n (pc := 11) (i := 2) dX4_openLevel_11 rfl rfl ?_
    obtain ⟨r2, h3, g1, e⟩ := ob2_some e
    obtain ⟨g4, e⟩ := gd_some e
    refine V_callV (pc := 12) (bc := 0) (bs := 0) (mc := 0) (ms := 0) (st := []) (As := [.ref v2]) (a := v3) (h' := h3) (r := some (.int r2)) dX4_openLevel_12 ml_X4_81 (ci := 8) rfl (of_decide_eq_true g4) rfl rfl (Nat.le_of_ble_eq_true rfl) (d' := 1) (by decide) (c_X9_advance (l := x.2.1) v3 v2 h g1) ?_
    refine V_if_eq (pc := 15) (tgt := 61) dX4_openLevel_15 (by decide) (fun c23 => ?_) (fun c23 => ?_)
    · rw [if_pos c23] at e
      cases e
      exact V_pick [] rfl (kE61 h3 rfl)
    · rw [if_neg c23] at e
      refine V_pick [0, 1, 2, 3, 4] rfl ?_
      refine V_iload_n (pc := 18) (i := 1) dX4_openLevel_18 rfl rfl ?_
      refine V_aload_n (pc := 19) (i := 2) dX4_openLevel_19 rfl rfl ?_
      refine V_aload_n (pc := 20) (i := 3) dX4_openLevel_20 rfl rfl ?_
      obtain ⟨g5, e⟩ := gd_some e
      obtain ⟨q6, g7, e⟩ := ob_some e
      refine V_getR (pc := 21) (ci := 8) (k := 0) (b := q6) dX4_openLevel_21 fl_X4_85 rfl (of_decide_eq_true g5) g7 ?_
      obtain ⟨r9, g8, e⟩ := ob_some e
      obtain ⟨g10, e⟩ := gd_some e
      refine V_callV (pc := 24) (bc := 0) (bs := 0) (mc := 0) (ms := 0) (st := [.int v1]) (As := [.ref q6]) (a := v2) (h' := h3) (r := some (.int r9)) dX4_openLevel_24 ml_X4_27 (ci := 2) rfl (of_decide_eq_true g10) rfl rfl (Nat.le_of_ble_eq_true rfl) (d' := 0) (by decide) (c_X2_asNumber (l := x.2.1) v2 q6 h3 g8) ?_
      refine V_iadd (pc := 27) dX4_openLevel_27 ?_
      refine V_istore (pc := 28) (i := 5) (lv' := [(5, .int (v1 + r9)), (0, .ref v0), (1, .int v1), (2, .ref v2), (3, .ref v3), (4, .int v4)]) dX4_openLevel_28 (by decide) rfl ?_
      refine V_aload_n (pc := 30) (i := 3) dX4_openLevel_30 rfl rfl ?_
      obtain ⟨r12, g11, e⟩ := ob_some e
      refine V_callV (pc := 31) (bc := 0) (bs := 0) (mc := 0) (ms := 0) (st := []) (As := []) (a := v3) (h' := h3) (r := some (.int r12)) dX4_openLevel_31 ml_X4_86 (ci := 8) rfl (of_decide_eq_true g5) rfl rfl (Nat.le_of_ble_eq_true rfl) (d' := 0) (by decide) (c_X9_isLevelNow (l := x.2.1) v3 h3 g11) ?_
      refine V_if_eq (pc := 34) (tgt := 55) dX4_openLevel_34 (by decide) (fun c22 => ?_) (fun c22 => ?_)
      · rw [if_pos c22] at e
        exact V_pick [1, 2, 3, 4, 5] rfl (r_X4_openLevel_b55 v0 v1 v2 v3 v4 h3 e kI kE61)
      · rw [if_neg c22] at e
        refine V_pick [1, 2, 3, 4, 5, 0] rfl ?_
        refine V_iload (pc := 37) (i := 5) dX4_openLevel_37 rfl ?_
        refine V_aload_n (pc := 39) (i := 0) dX4_openLevel_39 rfl rfl ?_
        obtain ⟨g13, e⟩ := gd_some e
        obtain ⟨q14, g15, e⟩ := ob_some e
        refine V_getR (pc := 40) (ci := 4) (k := 0) (b := q14) dX4_openLevel_40 fl_X4_9 rfl (of_decide_eq_true g13) g15 ?_
        obtain ⟨g16, e⟩ := gd_some e
        refine V_alen (pc := 43) (k := 13) dX4_openLevel_43 (of_decide_eq_true g16) (by decide) ?_
        refine V_icmp_ge (pc := 44) (tgt := 55) dX4_openLevel_44 (by decide) (fun c21 => ?_) (fun c21 => ?_)
        · rw [if_pos c21] at e
          exact V_pick [0, 1, 2, 3, 4] rfl (r_X4_openLevel_b55 v0 v1 v2 v3 v4 h3 e kI kE61)
        · rw [if_neg c21] at e
          refine V_pick [0, 1, 2, 3, 4, 5] rfl ?_
          refine V_aload_n (pc := 47) (i := 0) dX4_openLevel_47 rfl rfl ?_
          obtain ⟨q17, g18, e⟩ := ob_some e
          refine V_getR (pc := 48) (ci := 4) (k := 0) (b := q17) dX4_openLevel_48 fl_X4_9 rfl (of_decide_eq_true g13) g18 ?_
          refine V_iload (pc := 51) (i := 5) dX4_openLevel_51 rfl ?_
          refine V_iconst (pc := 53) (v := (-1 : Int32)) dX4_openLevel_53 (by decide) ?_
          obtain ⟨g19, e⟩ := gd_some e
          obtain ⟨g20, e⟩ := gd_some e
          refine V_iast (pc := 54) dX4_openLevel_54 (of_decide_eq_true g19) (ix_in g20) ?_
          exact V_pick [0, 1, 2, 3, 4] rfl (r_X4_openLevel_b55 v0 v1 v2 v3 v4 (setI h3 q17 (v1 + r9).toNatClampNeg (-1 : Int32)) e kI kE61)
set_option maxRecDepth 100000 in
def F_X4_openLevel_b61  (h : Hp) : Option (Unit × Hp) :=
  some ((), h)
set_option maxHeartbeats 4000000 in
set_option maxRecDepth 100000 in
theorem r_X4_openLevel_b61  (h : Hp) {x : Cx} {r : Unit} {hz : Hp} (e : F_X4_openLevel_b61  h = some (r, hz)) (hF : Fin9 M_X4_openLevel x none none hz) : V M_X4_openLevel x 2 61 [] [] h 0 0 := by
  unfold F_X4_openLevel_b61 at e
  cases e
  exact V_vret (pc := 61) dX4_openLevel_61 hF
set_option maxRecDepth 100000 in
def F_X4_openLevel_b0 (v0 : Nat) (v1 : Int32) (v2 : Nat) (v3 : Nat) (h : Hp) : Option (Unit × Hp) :=
  ob (iter (fun z : Int32 × Hp => F_X4_openLevel_l3 v0 v1 v2 v3 z.1 z.2) FU ((0 : Int32), h)) (fun h25 => F_X4_openLevel_b61 h25)
set_option maxHeartbeats 4000000 in
set_option maxRecDepth 100000 in
theorem r_X4_openLevel_b0 (v0 : Nat) (v1 : Int32) (v2 : Nat) (v3 : Nat) (h : Hp) {x : Cx} {r : Unit} {hz : Hp} (e : F_X4_openLevel_b0 v0 v1 v2 v3 h = some (r, hz)) (hF : Fin9 M_X4_openLevel x none none hz) : V M_X4_openLevel x 2 0 [(0, .ref v0), (1, .int v1), (2, .ref v2), (3, .ref v3)] [] h 0 0 := by
  unfold F_X4_openLevel_b0 at e
  refine V_iconst (pc := 0) (v := (0 : Int32)) dX4_openLevel_0 (by decide) ?_
  refine V_istore (pc := 1) (i := 4) (lv' := [(4, .int (0 : Int32)), (0, .ref v0), (1, .int v1), (2, .ref v2), (3, .ref v3)]) dX4_openLevel_1 (by decide) rfl ?_
  refine V_pick [1, 2, 3, 4, 0] rfl ?_
  obtain ⟨y26, g27, e⟩ := ob_some e
  refine iter_V (P := fun z : Int32 × Hp => V M_X4_openLevel x 2 3 [(0, .ref v0), (1, .int v1), (2, .ref v2), (3, .ref v3), (4, .int z.1)] [] z.2 0 0) (E := fun z : Hp => V M_X4_openLevel x 2 61 [] [] z 0 0) (fun z o e9 k1 k2 => r_X4_openLevel_l3 v0 v1 v2 v3 z.1 z.2 e9 (fun z hz9 => k1 z hz9) (fun z hz9 => k2 _ hz9)) _ _ _ g27 ?_
  clear g27
  obtain ⟨h25, rfl⟩ : ∃ q, q = y26 := ⟨_, rfl⟩
  replace e : (F_X4_openLevel_b61 h25) = some (r, hz) := e
  show V M_X4_openLevel x 2 61 [] [] h25 0 0
  exact V_pick [] rfl (r_X4_openLevel_b61 h25 e hF)
def F_X4_openLevel (v0 : Nat) (v1 : Int32) (v2 : Nat) (v3 : Nat) (h : Hp) : Option (Unit × Hp) := F_X4_openLevel_b0 v0 v1 v2 v3 h
theorem c_X4_openLevel {l : Launch} (v0 : Nat) (v1 : Int32) (v2 : Nat) (v3 : Nat) (h : Hp) {r : Unit} {hz : Hp} (e : F_X4_openLevel v0 v1 v2 v3 h = some (r, hz)) : Ct l yX4_openLevel M_X4_openLevel none 2 [.ref v0, .int v1, .ref v2, .ref v3] h 0 0 none hz :=
  Ct_of rfl rfl (fun q => by cases q) (Nat.le_of_ble_eq_true rfl) (fun x _ hF => V_pick [0, 1, 2, 3] rfl (r_X4_openLevel_b0 v0 v1 v2 v3 h e hF))
theorem dX5_metBy_0 : decode cX5_metBy 0 = .ok (.aload_n 3, 1) := by decide +kernel
theorem dX5_metBy_1 : decode cX5_metBy 1 = .ok (.iload_n 1, 1) := by decide +kernel
theorem dX5_metBy_2 : decode cX5_metBy 2 = .ok (.iaload, 1) := by decide +kernel
theorem dX5_metBy_3 : decode cX5_metBy 3 = .ok (.istore 4, 2) := by decide +kernel
theorem dX5_metBy_5 : decode cX5_metBy 5 = .ok (.iconst 0, 1) := by decide +kernel
theorem dX5_metBy_6 : decode cX5_metBy 6 = .ok (.istore 5, 2) := by decide +kernel
theorem dX5_metBy_8 : decode cX5_metBy 8 = .ok (.iconst 0, 1) := by decide +kernel
theorem dX5_metBy_9 : decode cX5_metBy 9 = .ok (.istore 6, 2) := by decide +kernel
theorem dX5_metBy_11 : decode cX5_metBy 11 = .ok (.iload 6, 2) := by decide +kernel
theorem dX5_metBy_13 : decode cX5_metBy 13 = .ok (.aload_n 2, 1) := by decide +kernel
theorem dX5_metBy_14 : decode cX5_metBy 14 = .ok (.getfield 59, 3) := by decide +kernel
theorem dX5_metBy_17 : decode cX5_metBy 17 = .ok (.if_icmp .ge 27, 3) := by decide +kernel
theorem dX5_metBy_20 : decode cX5_metBy 20 = .ok (.aload_n 3, 1) := by decide +kernel
theorem dX5_metBy_21 : decode cX5_metBy 21 = .ok (.iload 6, 2) := by decide +kernel
theorem dX5_metBy_23 : decode cX5_metBy 23 = .ok (.iaload, 1) := by decide +kernel
theorem dX5_metBy_24 : decode cX5_metBy 24 = .ok (.iload 4, 2) := by decide +kernel
theorem dX5_metBy_26 : decode cX5_metBy 26 = .ok (.if_icmp .ne 12, 3) := by decide +kernel
theorem dX5_metBy_29 : decode cX5_metBy 29 = .ok (.iload 5, 2) := by decide +kernel
theorem dX5_metBy_31 : decode cX5_metBy 31 = .ok (.iconst 1, 1) := by decide +kernel
theorem dX5_metBy_32 : decode cX5_metBy 32 = .ok (.iload 6, 2) := by decide +kernel
theorem dX5_metBy_34 : decode cX5_metBy 34 = .ok (.ishl, 1) := by decide +kernel
theorem dX5_metBy_35 : decode cX5_metBy 35 = .ok (.iadd, 1) := by decide +kernel
theorem dX5_metBy_36 : decode cX5_metBy 36 = .ok (.istore 5, 2) := by decide +kernel
theorem dX5_metBy_38 : decode cX5_metBy 38 = .ok (.iinc 6 1, 3) := by decide +kernel
theorem dX5_metBy_41 : decode cX5_metBy 41 = .ok (.goto (-30), 3) := by decide +kernel
theorem dX5_metBy_44 : decode cX5_metBy 44 = .ok (.iload_n 1, 1) := by decide +kernel
theorem dX5_metBy_45 : decode cX5_metBy 45 = .ok (.bipush 8, 2) := by decide +kernel
theorem dX5_metBy_47 : decode cX5_metBy 47 = .ok (.imul, 1) := by decide +kernel
theorem dX5_metBy_48 : decode cX5_metBy 48 = .ok (.iload 4, 2) := by decide +kernel
theorem dX5_metBy_50 : decode cX5_metBy 50 = .ok (.iadd, 1) := by decide +kernel
theorem dX5_metBy_51 : decode cX5_metBy 51 = .ok (.bipush 32, 2) := by decide +kernel
theorem dX5_metBy_53 : decode cX5_metBy 53 = .ok (.imul, 1) := by decide +kernel
theorem dX5_metBy_54 : decode cX5_metBy 54 = .ok (.iload 5, 2) := by decide +kernel
theorem dX5_metBy_56 : decode cX5_metBy 56 = .ok (.iadd, 1) := by decide +kernel
theorem dX5_metBy_57 : decode cX5_metBy 57 = .ok (.istore 6, 2) := by decide +kernel
theorem dX5_metBy_59 : decode cX5_metBy 59 = .ok (.aload_n 0, 1) := by decide +kernel
theorem dX5_metBy_60 : decode cX5_metBy 60 = .ok (.getfield 11, 3) := by decide +kernel
theorem dX5_metBy_63 : decode cX5_metBy 63 = .ok (.iload 6, 2) := by decide +kernel
theorem dX5_metBy_65 : decode cX5_metBy 65 = .ok (.iaload, 1) := by decide +kernel
theorem dX5_metBy_66 : decode cX5_metBy 66 = .ok (.iconst (-1), 1) := by decide +kernel
theorem dX5_metBy_67 : decode cX5_metBy 67 = .ok (.if_icmp .ne 22, 3) := by decide +kernel
theorem dX5_metBy_70 : decode cX5_metBy 70 = .ok (.aload_n 0, 1) := by decide +kernel
theorem dX5_metBy_71 : decode cX5_metBy 71 = .ok (.getfield 11, 3) := by decide +kernel
theorem dX5_metBy_74 : decode cX5_metBy 74 = .ok (.iload 6, 2) := by decide +kernel
theorem dX5_metBy_76 : decode cX5_metBy 76 = .ok (.aload_n 2, 1) := by decide +kernel
theorem dX5_metBy_77 : decode cX5_metBy 77 = .ok (.getfield 73, 3) := by decide +kernel
theorem dX5_metBy_80 : decode cX5_metBy 80 = .ok (.iload_n 1, 1) := by decide +kernel
theorem dX5_metBy_81 : decode cX5_metBy 81 = .ok (.aaload, 1) := by decide +kernel
theorem dX5_metBy_82 : decode cX5_metBy 82 = .ok (.aload_n 2, 1) := by decide +kernel
theorem dX5_metBy_83 : decode cX5_metBy 83 = .ok (.iload_n 1, 1) := by decide +kernel
theorem dX5_metBy_84 : decode cX5_metBy 84 = .ok (.aload_n 3, 1) := by decide +kernel
theorem dX5_metBy_85 : decode cX5_metBy 85 = .ok (.invokevirtual 77, 3) := by decide +kernel
theorem dX5_metBy_88 : decode cX5_metBy 88 = .ok (.iastore, 1) := by decide +kernel
theorem dX5_metBy_89 : decode cX5_metBy 89 = .ok (.aload_n 0, 1) := by decide +kernel
theorem dX5_metBy_90 : decode cX5_metBy 90 = .ok (.getfield 11, 3) := by decide +kernel
theorem dX5_metBy_93 : decode cX5_metBy 93 = .ok (.iload 6, 2) := by decide +kernel
theorem dX5_metBy_95 : decode cX5_metBy 95 = .ok (.iaload, 1) := by decide +kernel
theorem dX5_metBy_96 : decode cX5_metBy 96 = .ok (.ireturn, 1) := by decide +kernel
set_option maxRecDepth 100000 in
def F_X5_metBy_b38 (v0 : Nat) (v1 : Int32) (v2 : Nat) (v3 : Nat) (v4 : Int32) (v5 : Int32) (v6 : Int32) (h : Hp) : Option ((Int32 × Int32) ⊕ Int32) :=
  some (.inl (v5, v6 + (1 : Int32)))
set_option maxHeartbeats 4000000 in
set_option maxRecDepth 100000 in
theorem r_X5_metBy_b38 (v0 : Nat) (v1 : Int32) (v2 : Nat) (v3 : Nat) (v4 : Int32) (v5 : Int32) (v6 : Int32) (h : Hp) {x : Cx} {o : ((Int32 × Int32) ⊕ Int32)} (e : F_X5_metBy_b38 v0 v1 v2 v3 v4 v5 v6 h = some o) (kI : ∀ z, o = .inl z → V M_X5_metBy x 4 11 [(0, .ref v0), (1, .int v1), (2, .ref v2), (3, .ref v3), (4, .int v4), (5, .int z.1), (6, .int z.2)] [] h 0 0) (kE44 : ∀ z : Int32, o = .inr z → V M_X5_metBy x 4 44 [(0, .ref v0), (1, .int v1), (2, .ref v2), (3, .ref v3), (4, .int v4), (5, .int z)] [] h 0 0) : V M_X5_metBy x 4 38 [(0, .ref v0), (1, .int v1), (2, .ref v2), (3, .ref v3), (4, .int v4), (5, .int v5), (6, .int v6)] [] h 0 0 := by
  unfold F_X5_metBy_b38 at e
  refine V_iinc (pc := 38) (i := 6) (u := v6 + (1 : Int32)) (lv' := [(6, .int (v6 + (1 : Int32))), (0, .ref v0), (1, .int v1), (2, .ref v2), (3, .ref v3), (4, .int v4), (5, .int v5)]) dX5_metBy_38 rfl rfl (by decide) rfl ?_
  refine V_goto (pc := 41) (tgt := 11) dX5_metBy_41 (by decide) ?_
  cases e
  exact V_pick [1, 2, 3, 4, 5, 6, 0] rfl (kI (v5, v6 + (1 : Int32)) rfl)
set_option maxRecDepth 100000 in
def F_X5_metBy_l11 (v0 : Nat) (v1 : Int32) (v2 : Nat) (v3 : Nat) (v4 : Int32) (v5 : Int32) (v6 : Int32) (h : Hp) : Option ((Int32 × Int32) ⊕ Int32) :=
  gd (decide (kd h v2 = 2)) <| (if (zI h v2 5) ≤ v6 then some (.inr v5) else gd (decide (kd h v3 = 13)) <| gd (ix v6 (zl h v3)) <| (if (zI h v3 (v6).toNatClampNeg) = v4 then F_X5_metBy_b38 v0 v1 v2 v3 v4 (v5 + ((1 : Int32) <<< (v6 &&& 31))) v6 h else F_X5_metBy_b38 v0 v1 v2 v3 v4 v5 v6 h))
set_option maxHeartbeats 4000000 in
set_option maxRecDepth 100000 in
theorem r_X5_metBy_l11 (v0 : Nat) (v1 : Int32) (v2 : Nat) (v3 : Nat) (v4 : Int32) (v5 : Int32) (v6 : Int32) (h : Hp) {x : Cx} {o : ((Int32 × Int32) ⊕ Int32)} (e : F_X5_metBy_l11 v0 v1 v2 v3 v4 v5 v6 h = some o) (kI : ∀ z, o = .inl z → V M_X5_metBy x 4 11 [(0, .ref v0), (1, .int v1), (2, .ref v2), (3, .ref v3), (4, .int v4), (5, .int z.1), (6, .int z.2)] [] h 0 0) (kE44 : ∀ z : Int32, o = .inr z → V M_X5_metBy x 4 44 [(0, .ref v0), (1, .int v1), (2, .ref v2), (3, .ref v3), (4, .int v4), (5, .int z)] [] h 0 0) : V M_X5_metBy x 4 11 [(0, .ref v0), (1, .int v1), (2, .ref v2), (3, .ref v3), (4, .int v4), (5, .int v5), (6, .int v6)] [] h 0 0 := by
  unfold F_X5_metBy_l11 at e
  refine V_iload (pc := 11) (i := 6) dX5_metBy_11 rfl ?_
  refine V_aload_n (pc := 13) (i := 2) dX5_metBy_13 rfl rfl ?_
  obtain ⟨g3, e⟩ := gd_some e
  refine V_getI (pc := 14) (ci := 2) (k := 5) dX5_metBy_14 fl_X5_59 rfl (of_decide_eq_true g3) ?_
  refine V_icmp_ge (pc := 17) (tgt := 44) dX5_metBy_17 (by decide) (fun c7 => ?_) (fun c7 => ?_)
  · rw [if_pos c7] at e
    cases e
    exact V_pick [0, 1, 2, 3, 4, 5] rfl (kE44 v5 rfl)
  · rw [if_neg c7] at e
    refine V_pick [0, 1, 2, 3, 4, 5, 6] rfl ?_
    refine V_aload_n (pc := 20) (i := 3) dX5_metBy_20 rfl rfl ?_
    refine V_iload (pc := 21) (i := 6) dX5_metBy_21 rfl ?_
    obtain ⟨g4, e⟩ := gd_some e
    obtain ⟨g5, e⟩ := gd_some e
    refine V_iald (pc := 23) dX5_metBy_23 (of_decide_eq_true g4) (ix_in g5) ?_
    refine V_iload (pc := 24) (i := 4) dX5_metBy_24 rfl ?_
    refine V_icmp_ne (pc := 26) (tgt := 38) dX5_metBy_26 (by decide) (fun c6 => ?_) (fun c6 => ?_)
    · rw [if_neg c6] at e
      exact V_pick [0, 1, 2, 3, 4, 5, 6] rfl (r_X5_metBy_b38 v0 v1 v2 v3 v4 v5 v6 h e kI kE44)
    · rw [if_pos c6] at e
      refine V_pick [0, 1, 2, 3, 4, 5, 6] rfl ?_
      refine V_iload (pc := 29) (i := 5) dX5_metBy_29 rfl ?_
      refine V_iconst (pc := 31) (v := (1 : Int32)) dX5_metBy_31 (by decide) ?_
      refine V_iload (pc := 32) (i := 6) dX5_metBy_32 rfl ?_
      refine V_ishl (pc := 34) dX5_metBy_34 ?_
      refine V_iadd (pc := 35) dX5_metBy_35 ?_
      refine V_istore (pc := 36) (i := 5) (lv' := [(5, .int (v5 + ((1 : Int32) <<< (v6 &&& 31)))), (0, .ref v0), (1, .int v1), (2, .ref v2), (3, .ref v3), (4, .int v4), (6, .int v6)]) dX5_metBy_36 (by decide) rfl ?_
      exact V_pick [1, 2, 3, 4, 5, 0, 6] rfl (r_X5_metBy_b38 v0 v1 v2 v3 v4 (v5 + ((1 : Int32) <<< (v6 &&& 31))) v6 h e kI kE44)
set_option maxRecDepth 100000 in
def F_X5_metBy_b89 (v0 : Nat) (v6 : Int32) (h : Hp) : Option (Int32 × Hp) :=
  gd (decide (kd h v0 = 5)) <| ob (zR h v0 0) fun q15 => gd (decide (kd h q15 = 13)) <| gd (ix v6 (zl h q15)) <| some (zI h q15 (v6).toNatClampNeg, h)
set_option maxHeartbeats 4000000 in
set_option maxRecDepth 100000 in
theorem r_X5_metBy_b89 (v0 : Nat) (v6 : Int32) (h : Hp) {x : Cx} {r : Int32} {hz : Hp} (e : F_X5_metBy_b89 v0 v6 h = some (r, hz)) (hF : Fin9 M_X5_metBy x (some .int) (some (.int r)) hz) : V M_X5_metBy x 4 89 [(0, .ref v0), (6, .int v6)] [] h 0 0 := by
  unfold F_X5_metBy_b89 at e
  refine V_aload_n (pc := 89) (i := 0) dX5_metBy_89 rfl rfl ?_
  obtain ⟨g14, e⟩ := gd_some e
  obtain ⟨q15, g16, e⟩ := ob_some e
  refine V_getR (pc := 90) (ci := 5) (k := 0) (b := q15) dX5_metBy_90 fl_X5_11 rfl (of_decide_eq_true g14) g16 ?_
  refine V_iload (pc := 93) (i := 6) dX5_metBy_93 rfl ?_
  obtain ⟨g17, e⟩ := gd_some e
  obtain ⟨g18, e⟩ := gd_some e
  refine V_iald (pc := 95) dX5_metBy_95 (of_decide_eq_true g17) (ix_in g18) ?_
  cases e
  exact V_iret (pc := 96) dX5_metBy_96 hF
set_option maxRecDepth 100000 in
def F_X5_metBy_b0 (v0 : Nat) (v1 : Int32) (v2 : Nat) (v3 : Nat) (h : Hp) : Option (Int32 × Hp) :=
  gd (decide (kd h v3 = 13)) <| gd (ix v1 (zl h v3)) <| ob (iter (fun z : Int32 × Int32 => F_X5_metBy_l11 v0 v1 v2 v3 (zI h v3 (v1).toNatClampNeg) z.1 z.2 h) FU ((0 : Int32), (0 : Int32))) (fun w8 => gd (decide (kd h v0 = 5)) <| ob (zR h v0 0) fun q10 => gd (decide (kd h q10 = 13)) <| gd (ix ((((v1 * (8 : Int32)) + (zI h v3 (v1).toNatClampNeg)) * (32 : Int32)) + w8) (zl h q10)) <| (if (zI h q10 ((((v1 * (8 : Int32)) + (zI h v3 (v1).toNatClampNeg)) * (32 : Int32)) + w8).toNatClampNeg) = (-1 : Int32) then ob (zR h v0 0) fun q19 => gd (decide (kd h v2 = 2)) <| ob (zR h v2 8) fun q22 => gd (decide (kd h q22 = 15)) <| gd (ix v1 (zl h q22)) <| ob (zR h q22 (v1).toNatClampNeg) fun q26 => ob2 (F_X10_holding q26 v2 v1 v3 h) fun r29 h30 => gd (decide (kd h q26 = 9)) <| gd (decide (kd h30 q19 = 13)) <| gd (ix ((((v1 * (8 : Int32)) + (zI h v3 (v1).toNatClampNeg)) * (32 : Int32)) + w8) (zl h30 q19)) <| F_X5_metBy_b89 v0 ((((v1 * (8 : Int32)) + (zI h v3 (v1).toNatClampNeg)) * (32 : Int32)) + w8) (setI h30 q19 ((((v1 * (8 : Int32)) + (zI h v3 (v1).toNatClampNeg)) * (32 : Int32)) + w8).toNatClampNeg r29) else F_X5_metBy_b89 v0 ((((v1 * (8 : Int32)) + (zI h v3 (v1).toNatClampNeg)) * (32 : Int32)) + w8) h))
set_option maxHeartbeats 4000000 in
set_option maxRecDepth 100000 in
theorem r_X5_metBy_b0 (v0 : Nat) (v1 : Int32) (v2 : Nat) (v3 : Nat) (h : Hp) {x : Cx} {r : Int32} {hz : Hp} (e : F_X5_metBy_b0 v0 v1 v2 v3 h = some (r, hz)) (hF : Fin9 M_X5_metBy x (some .int) (some (.int r)) hz) : V M_X5_metBy x 4 0 [(0, .ref v0), (1, .int v1), (2, .ref v2), (3, .ref v3)] [] h 0 0 := by
  unfold F_X5_metBy_b0 at e
  refine V_aload_n (pc := 0) (i := 3) dX5_metBy_0 rfl rfl ?_
  refine V_iload_n (pc := 1) (i := 1) dX5_metBy_1 rfl rfl ?_
  obtain ⟨g1, e⟩ := gd_some e
  obtain ⟨g2, e⟩ := gd_some e
  refine V_iald (pc := 2) dX5_metBy_2 (of_decide_eq_true g1) (ix_in g2) ?_
  refine V_istore (pc := 3) (i := 4) (lv' := [(4, .int (zI h v3 (v1).toNatClampNeg)), (0, .ref v0), (1, .int v1), (2, .ref v2), (3, .ref v3)]) dX5_metBy_3 (by decide) rfl ?_
  refine V_iconst (pc := 5) (v := (0 : Int32)) dX5_metBy_5 (by decide) ?_
  refine V_istore (pc := 6) (i := 5) (lv' := [(5, .int (0 : Int32)), (4, .int (zI h v3 (v1).toNatClampNeg)), (0, .ref v0), (1, .int v1), (2, .ref v2), (3, .ref v3)]) dX5_metBy_6 (by decide) rfl ?_
  refine V_iconst (pc := 8) (v := (0 : Int32)) dX5_metBy_8 (by decide) ?_
  refine V_istore (pc := 9) (i := 6) (lv' := [(6, .int (0 : Int32)), (5, .int (0 : Int32)), (4, .int (zI h v3 (v1).toNatClampNeg)), (0, .ref v0), (1, .int v1), (2, .ref v2), (3, .ref v3)]) dX5_metBy_9 (by decide) rfl ?_
  refine V_pick [3, 4, 5, 6, 2, 1, 0] rfl ?_
  obtain ⟨y35, g36, e⟩ := ob_some e
  refine iter_V (P := fun z : Int32 × Int32 => V M_X5_metBy x 4 11 [(0, .ref v0), (1, .int v1), (2, .ref v2), (3, .ref v3), (4, .int (zI h v3 (v1).toNatClampNeg)), (5, .int z.1), (6, .int z.2)] [] h 0 0) (E := fun z : Int32 => V M_X5_metBy x 4 44 [(0, .ref v0), (1, .int v1), (2, .ref v2), (3, .ref v3), (4, .int (zI h v3 (v1).toNatClampNeg)), (5, .int z)] [] h 0 0) (fun z o e9 k1 k2 => r_X5_metBy_l11 v0 v1 v2 v3 (zI h v3 (v1).toNatClampNeg) z.1 z.2 h e9 (fun z hz9 => k1 z hz9) (fun z hz9 => k2 _ hz9)) _ _ _ g36 ?_
  clear g36
  obtain ⟨w8, rfl⟩ : ∃ q, q = y35 := ⟨_, rfl⟩
  replace e : (gd (decide (kd h v0 = 5)) <| ob (zR h v0 0) fun q10 => gd (decide (kd h q10 = 13)) <| gd (ix ((((v1 * (8 : Int32)) + (zI h v3 (v1).toNatClampNeg)) * (32 : Int32)) + w8) (zl h q10)) <| (if (zI h q10 ((((v1 * (8 : Int32)) + (zI h v3 (v1).toNatClampNeg)) * (32 : Int32)) + w8).toNatClampNeg) = (-1 : Int32) then ob (zR h v0 0) fun q19 => gd (decide (kd h v2 = 2)) <| ob (zR h v2 8) fun q22 => gd (decide (kd h q22 = 15)) <| gd (ix v1 (zl h q22)) <| ob (zR h q22 (v1).toNatClampNeg) fun q26 => ob2 (F_X10_holding q26 v2 v1 v3 h) fun r29 h30 => gd (decide (kd h q26 = 9)) <| gd (decide (kd h30 q19 = 13)) <| gd (ix ((((v1 * (8 : Int32)) + (zI h v3 (v1).toNatClampNeg)) * (32 : Int32)) + w8) (zl h30 q19)) <| F_X5_metBy_b89 v0 ((((v1 * (8 : Int32)) + (zI h v3 (v1).toNatClampNeg)) * (32 : Int32)) + w8) (setI h30 q19 ((((v1 * (8 : Int32)) + (zI h v3 (v1).toNatClampNeg)) * (32 : Int32)) + w8).toNatClampNeg r29) else F_X5_metBy_b89 v0 ((((v1 * (8 : Int32)) + (zI h v3 (v1).toNatClampNeg)) * (32 : Int32)) + w8) h)) = some (r, hz) := e
  show V M_X5_metBy x 4 44 [(0, .ref v0), (1, .int v1), (2, .ref v2), (3, .ref v3), (4, .int (zI h v3 (v1).toNatClampNeg)), (5, .int w8)] [] h 0 0
  refine V_iload_n (pc := 44) (i := 1) dX5_metBy_44 rfl rfl ?_
  refine V_bipush (pc := 45) (v := (8 : Int32)) dX5_metBy_45 (by decide) ?_
  refine V_imul (pc := 47) dX5_metBy_47 ?_
  refine V_iload (pc := 48) (i := 4) dX5_metBy_48 rfl ?_
  refine V_iadd (pc := 50) dX5_metBy_50 ?_
  refine V_bipush (pc := 51) (v := (32 : Int32)) dX5_metBy_51 (by decide) ?_
  refine V_imul (pc := 53) dX5_metBy_53 ?_
  refine V_iload (pc := 54) (i := 5) dX5_metBy_54 rfl ?_
  refine V_iadd (pc := 56) dX5_metBy_56 ?_
  refine V_istore (pc := 57) (i := 6) (lv' := [(6, .int ((((v1 * (8 : Int32)) + (zI h v3 (v1).toNatClampNeg)) * (32 : Int32)) + w8)), (0, .ref v0), (1, .int v1), (2, .ref v2), (3, .ref v3), (4, .int (zI h v3 (v1).toNatClampNeg)), (5, .int w8)]) dX5_metBy_57 (by decide) rfl ?_
  refine V_aload_n (pc := 59) (i := 0) dX5_metBy_59 rfl rfl ?_
  obtain ⟨g9, e⟩ := gd_some e
  obtain ⟨q10, g11, e⟩ := ob_some e
  refine V_getR (pc := 60) (ci := 5) (k := 0) (b := q10) dX5_metBy_60 fl_X5_11 rfl (of_decide_eq_true g9) g11 ?_
  refine V_iload (pc := 63) (i := 6) dX5_metBy_63 rfl ?_
  obtain ⟨g12, e⟩ := gd_some e
  obtain ⟨g13, e⟩ := gd_some e
  refine V_iald (pc := 65) dX5_metBy_65 (of_decide_eq_true g12) (ix_in g13) ?_
  refine V_iconst (pc := 66) (v := (-1 : Int32)) dX5_metBy_66 (by decide) ?_
  refine V_icmp_ne (pc := 67) (tgt := 89) dX5_metBy_67 (by decide) (fun c34 => ?_) (fun c34 => ?_)
  · rw [if_neg c34] at e
    exact V_pick [1, 0] rfl (r_X5_metBy_b89 v0 ((((v1 * (8 : Int32)) + (zI h v3 (v1).toNatClampNeg)) * (32 : Int32)) + w8) h e hF)
  · rw [if_pos c34] at e
    refine V_pick [1, 2, 3, 4, 0] rfl ?_
    refine V_aload_n (pc := 70) (i := 0) dX5_metBy_70 rfl rfl ?_
    obtain ⟨q19, g20, e⟩ := ob_some e
    refine V_getR (pc := 71) (ci := 5) (k := 0) (b := q19) dX5_metBy_71 fl_X5_11 rfl (of_decide_eq_true g9) g20 ?_
    refine V_iload (pc := 74) (i := 6) dX5_metBy_74 rfl ?_
    refine V_aload_n (pc := 76) (i := 2) dX5_metBy_76 rfl rfl ?_
    obtain ⟨g21, e⟩ := gd_some e
    obtain ⟨q22, g23, e⟩ := ob_some e
    refine V_getR (pc := 77) (ci := 2) (k := 8) (b := q22) dX5_metBy_77 fl_X5_73 rfl (of_decide_eq_true g21) g23 ?_
    refine V_iload_n (pc := 80) (i := 1) dX5_metBy_80 rfl rfl ?_
    obtain ⟨g24, e⟩ := gd_some e
    obtain ⟨g25, e⟩ := gd_some e
    obtain ⟨q26, g27, e⟩ := ob_some e
    refine V_aald (pc := 81) (b := q26) dX5_metBy_81 (of_decide_eq_true g24) (ix_in g25) g27 ?_
    refine V_aload_n (pc := 82) (i := 2) dX5_metBy_82 rfl rfl ?_
    refine V_iload_n (pc := 83) (i := 1) dX5_metBy_83 rfl rfl ?_
    refine V_aload_n (pc := 84) (i := 3) dX5_metBy_84 rfl rfl ?_
    obtain ⟨r29, h30, g28, e⟩ := ob2_some e
    obtain ⟨g31, e⟩ := gd_some e
    refine V_callV (pc := 85) (bc := 0) (bs := 0) (mc := 0) (ms := 0) (st := [.int ((((v1 * (8 : Int32)) + (zI h v3 (v1).toNatClampNeg)) * (32 : Int32)) + w8), .ref q19]) (As := [.ref v2, .int v1, .ref v3]) (a := q26) (h' := h30) (r := some (.int r29)) dX5_metBy_85 ml_X5_77 (ci := 9) rfl (of_decide_eq_true g31) rfl rfl (Nat.le_of_ble_eq_true rfl) (d' := 3) (by decide) (c_X10_holding (l := x.2.1) q26 v2 v1 v3 h g28) ?_
    obtain ⟨g32, e⟩ := gd_some e
    obtain ⟨g33, e⟩ := gd_some e
    refine V_iast (pc := 88) dX5_metBy_88 (of_decide_eq_true g32) (ix_in g33) ?_
    exact V_pick [0, 4] rfl (r_X5_metBy_b89 v0 ((((v1 * (8 : Int32)) + (zI h v3 (v1).toNatClampNeg)) * (32 : Int32)) + w8) (setI h30 q19 ((((v1 * (8 : Int32)) + (zI h v3 (v1).toNatClampNeg)) * (32 : Int32)) + w8).toNatClampNeg r29) e hF)
def F_X5_metBy (v0 : Nat) (v1 : Int32) (v2 : Nat) (v3 : Nat) (h : Hp) : Option (Int32 × Hp) := F_X5_metBy_b0 v0 v1 v2 v3 h
theorem c_X5_metBy {l : Launch} (v0 : Nat) (v1 : Int32) (v2 : Nat) (v3 : Nat) (h : Hp) {r : Int32} {hz : Hp} (e : F_X5_metBy v0 v1 v2 v3 h = some (r, hz)) : Ct l yX5_metBy M_X5_metBy (some .int) 4 [.ref v0, .int v1, .ref v2, .ref v3] h 0 0 (some (.int r)) hz :=
  Ct_of rfl rfl (fun q => by cases q) (Nat.le_of_ble_eq_true rfl) (fun x _ hF => V_pick [0, 1, 2, 3] rfl (r_X5_metBy_b0 v0 v1 v2 v3 h e hF))
theorem dX10_readComparison_0 : decode cX10_readComparison 0 = .ok (.aload_n 0, 1) := by decide +kernel
theorem dX10_readComparison_1 : decode cX10_readComparison 1 = .ok (.aload_n 1, 1) := by decide +kernel
theorem dX10_readComparison_2 : decode cX10_readComparison 2 = .ok (.invokevirtual 96, 3) := by decide +kernel
theorem dX10_readComparison_5 : decode cX10_readComparison 5 = .ok (.ifCond .ne 5, 3) := by decide +kernel
theorem dX10_readComparison_8 : decode cX10_readComparison 8 = .ok (.iconst 0, 1) := by decide +kernel
theorem dX10_readComparison_9 : decode cX10_readComparison 9 = .ok (.ireturn, 1) := by decide +kernel
theorem dX10_readComparison_10 : decode cX10_readComparison 10 = .ok (.aload_n 1, 1) := by decide +kernel
theorem dX10_readComparison_11 : decode cX10_readComparison 11 = .ok (.bipush 60, 2) := by decide +kernel
theorem dX10_readComparison_13 : decode cX10_readComparison 13 = .ok (.invokevirtual 65, 3) := by decide +kernel
theorem dX10_readComparison_16 : decode cX10_readComparison 16 = .ok (.istore_n 2, 1) := by decide +kernel
theorem dX10_readComparison_17 : decode cX10_readComparison 17 = .ok (.iload_n 2, 1) := by decide +kernel
theorem dX10_readComparison_18 : decode cX10_readComparison 18 = .ok (.ifCond .ne 17, 3) := by decide +kernel
theorem dX10_readComparison_21 : decode cX10_readComparison 21 = .ok (.aload_n 1, 1) := by decide +kernel
theorem dX10_readComparison_22 : decode cX10_readComparison 22 = .ok (.bipush 62, 2) := by decide +kernel
theorem dX10_readComparison_24 : decode cX10_readComparison 24 = .ok (.invokevirtual 65, 3) := by decide +kernel
theorem dX10_readComparison_27 : decode cX10_readComparison 27 = .ok (.ifCond .ne 8, 3) := by decide +kernel
theorem dX10_readComparison_30 : decode cX10_readComparison 30 = .ok (.aload_n 1, 1) := by decide +kernel
theorem dX10_readComparison_31 : decode cX10_readComparison 31 = .ok (.invokevirtual 72, 3) := by decide +kernel
theorem dX10_readComparison_34 : decode cX10_readComparison 34 = .ok (.ireturn, 1) := by decide +kernel
theorem dX10_readComparison_35 : decode cX10_readComparison 35 = .ok (.aload_n 1, 1) := by decide +kernel
theorem dX10_readComparison_36 : decode cX10_readComparison 36 = .ok (.invokevirtual 55, 3) := by decide +kernel
theorem dX10_readComparison_39 : decode cX10_readComparison 39 = .ok (.aload_n 0, 1) := by decide +kernel
theorem dX10_readComparison_40 : decode cX10_readComparison 40 = .ok (.aload_n 1, 1) := by decide +kernel
theorem dX10_readComparison_41 : decode cX10_readComparison 41 = .ok (.invokevirtual 96, 3) := by decide +kernel
theorem dX10_readComparison_44 : decode cX10_readComparison 44 = .ok (.ifCond .eq 25, 3) := by decide +kernel
theorem dX10_readComparison_47 : decode cX10_readComparison 47 = .ok (.aload_n 0, 1) := by decide +kernel
theorem dX10_readComparison_48 : decode cX10_readComparison 48 = .ok (.iload_n 2, 1) := by decide +kernel
theorem dX10_readComparison_49 : decode cX10_readComparison 49 = .ok (.ifCond .eq 8, 3) := by decide +kernel
theorem dX10_readComparison_52 : decode cX10_readComparison 52 = .ok (.bipush (-2), 2) := by decide +kernel
theorem dX10_readComparison_54 : decode cX10_readComparison 54 = .ok (.goto 5, 3) := by decide +kernel
theorem dX10_readComparison_57 : decode cX10_readComparison 57 = .ok (.bipush (-3), 2) := by decide +kernel
theorem dX10_readComparison_59 : decode cX10_readComparison 59 = .ok (.invokevirtual 43, 3) := by decide +kernel
theorem dX10_readComparison_62 : decode cX10_readComparison 62 = .ok (.ifCond .eq 7, 3) := by decide +kernel
theorem dX10_readComparison_65 : decode cX10_readComparison 65 = .ok (.iconst 1, 1) := by decide +kernel
theorem dX10_readComparison_66 : decode cX10_readComparison 66 = .ok (.goto 4, 3) := by decide +kernel
theorem dX10_readComparison_69 : decode cX10_readComparison 69 = .ok (.iconst 0, 1) := by decide +kernel
theorem dX10_readComparison_70 : decode cX10_readComparison 70 = .ok (.ireturn, 1) := by decide +kernel
set_option maxRecDepth 100000 in
def F_X10_readComparison_b70 (t0 : Int32) (h : Hp) : Option (Int32 × Hp) :=
  gd (decide (t0 = 0 ∨ t0 = 1)) <| some (t0, h)
set_option maxHeartbeats 4000000 in
set_option maxRecDepth 100000 in
theorem r_X10_readComparison_b70 (t0 : Int32) (h : Hp) {x : Cx} {r : Int32} {hz : Hp} (e : F_X10_readComparison_b70 t0 h = some (r, hz)) (hF : Fin9 M_X10_readComparison x (some .boolean) (some (.int r)) hz) : V M_X10_readComparison x 7 70 [] [.int t0] h 0 0 := by
  unfold F_X10_readComparison_b70 at e
  obtain ⟨g16, e⟩ := gd_some e
  cases e
  exact V_zret (pc := 70) dX10_readComparison_70 (z01 (of_decide_eq_true g16)) hF
set_option maxRecDepth 100000 in
def F_X10_readComparison_b69  (h : Hp) : Option (Int32 × Hp) :=
  F_X10_readComparison_b70 (0 : Int32) h
set_option maxHeartbeats 4000000 in
set_option maxRecDepth 100000 in
theorem r_X10_readComparison_b69  (h : Hp) {x : Cx} {r : Int32} {hz : Hp} (e : F_X10_readComparison_b69  h = some (r, hz)) (hF : Fin9 M_X10_readComparison x (some .boolean) (some (.int r)) hz) : V M_X10_readComparison x 7 69 [] [] h 0 0 := by
  unfold F_X10_readComparison_b69 at e
  refine V_iconst (pc := 69) (v := (0 : Int32)) dX10_readComparison_69 (by decide) ?_
  exact V_pick [] rfl (r_X10_readComparison_b70 (0 : Int32) h e hF)
set_option maxRecDepth 100000 in
def F_X10_readComparison_b59 (t0 : Nat) (t1 : Int32) (h : Hp) : Option (Int32 × Hp) :=
  ob2 (F_X10_put t0 t1 h) fun r18 h19 => gd (decide (kd h t0 = 9)) <| (if r18 = 0 then F_X10_readComparison_b69 h19 else F_X10_readComparison_b70 (1 : Int32) h19)
set_option maxHeartbeats 4000000 in
set_option maxRecDepth 100000 in
theorem r_X10_readComparison_b59 (t0 : Nat) (t1 : Int32) (h : Hp) {x : Cx} {r : Int32} {hz : Hp} (e : F_X10_readComparison_b59 t0 t1 h = some (r, hz)) (hF : Fin9 M_X10_readComparison x (some .boolean) (some (.int r)) hz) : V M_X10_readComparison x 7 59 [] [.int t1, .ref t0] h 0 0 := by
  unfold F_X10_readComparison_b59 at e
  obtain ⟨r18, h19, g17, e⟩ := ob2_some e
  obtain ⟨g20, e⟩ := gd_some e
  refine V_callV (pc := 59) (bc := 0) (bs := 0) (mc := 0) (ms := 0) (st := []) (As := [.int t1]) (a := t0) (h' := h19) (r := some (.int r18)) dX10_readComparison_59 ml_X10_43 (ci := 9) rfl (of_decide_eq_true g20) rfl rfl (Nat.le_of_ble_eq_true rfl) (d' := 0) (by decide) (c_X10_put (l := x.2.1) t0 t1 h g17) ?_
  refine V_if_eq (pc := 62) (tgt := 69) dX10_readComparison_62 (by decide) (fun c21 => ?_) (fun c21 => ?_)
  · rw [if_pos c21] at e
    exact V_pick [] rfl (r_X10_readComparison_b69 h19 e hF)
  · rw [if_neg c21] at e
    refine V_pick [] rfl ?_
    refine V_iconst (pc := 65) (v := (1 : Int32)) dX10_readComparison_65 (by decide) ?_
    refine V_goto (pc := 66) (tgt := 70) dX10_readComparison_66 (by decide) ?_
    exact V_pick [] rfl (r_X10_readComparison_b70 (1 : Int32) h19 e hF)
set_option maxRecDepth 100000 in
def F_X10_readComparison_b35 (v0 : Nat) (v1 : Nat) (v2 : Int32) (h : Hp) : Option (Int32 × Hp) :=
  ob2 (F_X6_lookAtNext v1 h) fun _ h10 => gd (decide (kd h v1 = 6)) <| ob2 (F_X10_readSum v0 v1 h10) fun r13 h14 => gd (decide (kd h10 v0 = 9)) <| (if r13 = 0 then F_X10_readComparison_b69 h14 else (if v2 = 0 then F_X10_readComparison_b59 v0 (-3 : Int32) h14 else F_X10_readComparison_b59 v0 (-2 : Int32) h14))
set_option maxHeartbeats 4000000 in
set_option maxRecDepth 100000 in
theorem r_X10_readComparison_b35 (v0 : Nat) (v1 : Nat) (v2 : Int32) (h : Hp) {x : Cx} {r : Int32} {hz : Hp} (e : F_X10_readComparison_b35 v0 v1 v2 h = some (r, hz)) (hF : Fin9 M_X10_readComparison x (some .boolean) (some (.int r)) hz) : V M_X10_readComparison x 7 35 [(0, .ref v0), (1, .ref v1), (2, .int v2)] [] h 0 0 := by
  unfold F_X10_readComparison_b35 at e
  refine V_aload_n (pc := 35) (i := 1) dX10_readComparison_35 rfl rfl ?_
  obtain ⟨r9, h10, g8, e⟩ := ob2_some e
  obtain ⟨g11, e⟩ := gd_some e
  refine V_callV (pc := 36) (bc := 0) (bs := 0) (mc := 0) (ms := 0) (st := []) (As := []) (a := v1) (h' := h10) (r := none) dX10_readComparison_36 ml_X10_55 (ci := 6) rfl (of_decide_eq_true g11) rfl rfl (Nat.le_of_ble_eq_true rfl) (d' := 1) (by decide) (c_X6_lookAtNext (l := x.2.1) v1 h g8) ?_
  refine V_aload_n (pc := 39) (i := 0) dX10_readComparison_39 rfl rfl ?_
  refine V_aload_n (pc := 40) (i := 1) dX10_readComparison_40 rfl rfl ?_
  obtain ⟨r13, h14, g12, e⟩ := ob2_some e
  obtain ⟨g15, e⟩ := gd_some e
  refine V_callV (pc := 41) (bc := 0) (bs := 0) (mc := 0) (ms := 0) (st := []) (As := [.ref v1]) (a := v0) (h' := h14) (r := some (.int r13)) dX10_readComparison_41 ml_X10_96 (ci := 9) rfl (of_decide_eq_true g15) rfl rfl (Nat.le_of_ble_eq_true rfl) (d' := 6) (by decide) (c_X10_readSum (l := x.2.1) v0 v1 h10 g12) ?_
  refine V_if_eq (pc := 44) (tgt := 69) dX10_readComparison_44 (by decide) (fun c23 => ?_) (fun c23 => ?_)
  · rw [if_pos c23] at e
    exact V_pick [] rfl (r_X10_readComparison_b69 h14 e hF)
  · rw [if_neg c23] at e
    refine V_pick [0, 2] rfl ?_
    refine V_aload_n (pc := 47) (i := 0) dX10_readComparison_47 rfl rfl ?_
    refine V_iload_n (pc := 48) (i := 2) dX10_readComparison_48 rfl rfl ?_
    refine V_if_eq (pc := 49) (tgt := 57) dX10_readComparison_49 (by decide) (fun c22 => ?_) (fun c22 => ?_)
    · rw [if_pos c22] at e
      refine V_pick [] rfl ?_
      refine V_bipush (pc := 57) (v := (-3 : Int32)) dX10_readComparison_57 (by decide) ?_
      exact V_pick [] rfl (r_X10_readComparison_b59 v0 (-3 : Int32) h14 e hF)
    · rw [if_neg c22] at e
      refine V_pick [] rfl ?_
      refine V_bipush (pc := 52) (v := (-2 : Int32)) dX10_readComparison_52 (by decide) ?_
      refine V_goto (pc := 54) (tgt := 59) dX10_readComparison_54 (by decide) ?_
      exact V_pick [] rfl (r_X10_readComparison_b59 v0 (-2 : Int32) h14 e hF)
set_option maxRecDepth 100000 in
def F_X10_readComparison_b0 (v0 : Nat) (v1 : Nat) (h : Hp) : Option (Int32 × Hp) :=
  ob2 (F_X10_readSum v0 v1 h) fun r2 h3 => gd (decide (kd h v0 = 9)) <| (if r2 = 0 then some ((0 : Int32), h3) else ob (F_X6_isSign v1 (60 : Int32) h3) fun r6 => gd (decide (kd h3 v1 = 6)) <| (if r6 = 0 then ob (F_X6_isSign v1 (62 : Int32) h3) fun r25 => (if r25 = 0 then ob2 (F_X6_refuse v1 h3) fun r27 h28 => gd (decide (r27 = 0 ∨ r27 = 1)) <| some (r27, h28) else F_X10_readComparison_b35 v0 v1 r6 h3) else F_X10_readComparison_b35 v0 v1 r6 h3))
set_option maxHeartbeats 4000000 in
set_option maxRecDepth 100000 in
theorem r_X10_readComparison_b0 (v0 : Nat) (v1 : Nat) (h : Hp) {x : Cx} {r : Int32} {hz : Hp} (e : F_X10_readComparison_b0 v0 v1 h = some (r, hz)) (hF : Fin9 M_X10_readComparison x (some .boolean) (some (.int r)) hz) : V M_X10_readComparison x 7 0 [(0, .ref v0), (1, .ref v1)] [] h 0 0 := by
  unfold F_X10_readComparison_b0 at e
  refine V_aload_n (pc := 0) (i := 0) dX10_readComparison_0 rfl rfl ?_
  refine V_aload_n (pc := 1) (i := 1) dX10_readComparison_1 rfl rfl ?_
  obtain ⟨r2, h3, g1, e⟩ := ob2_some e
  obtain ⟨g4, e⟩ := gd_some e
  refine V_callV (pc := 2) (bc := 0) (bs := 0) (mc := 0) (ms := 0) (st := []) (As := [.ref v1]) (a := v0) (h' := h3) (r := some (.int r2)) dX10_readComparison_2 ml_X10_96 (ci := 9) rfl (of_decide_eq_true g4) rfl rfl (Nat.le_of_ble_eq_true rfl) (d' := 6) (by decide) (c_X10_readSum (l := x.2.1) v0 v1 h g1) ?_
  refine V_if_ne (pc := 5) (tgt := 10) dX10_readComparison_5 (by decide) (fun c32 => ?_) (fun c32 => ?_)
  · rw [if_neg c32] at e
    refine V_pick [0, 1] rfl ?_
    refine V_aload_n (pc := 10) (i := 1) dX10_readComparison_10 rfl rfl ?_
    refine V_bipush (pc := 11) (v := (60 : Int32)) dX10_readComparison_11 (by decide) ?_
    obtain ⟨r6, g5, e⟩ := ob_some e
    obtain ⟨g7, e⟩ := gd_some e
    refine V_callV (pc := 13) (bc := 0) (bs := 0) (mc := 0) (ms := 0) (st := []) (As := [.int (60 : Int32)]) (a := v1) (h' := h3) (r := some (.int r6)) dX10_readComparison_13 ml_X10_65 (ci := 6) rfl (of_decide_eq_true g7) rfl rfl (Nat.le_of_ble_eq_true rfl) (d' := 0) (by decide) (c_X6_isSign (l := x.2.1) v1 (60 : Int32) h3 g5) ?_
    refine V_istore_n (pc := 16) (i := 2) (lv' := [(2, .int r6), (0, .ref v0), (1, .ref v1)]) dX10_readComparison_16 rfl (by decide) rfl ?_
    refine V_iload_n (pc := 17) (i := 2) dX10_readComparison_17 rfl rfl ?_
    refine V_if_ne (pc := 18) (tgt := 35) dX10_readComparison_18 (by decide) (fun c31 => ?_) (fun c31 => ?_)
    · rw [if_neg c31] at e
      exact V_pick [1, 2, 0] rfl (r_X10_readComparison_b35 v0 v1 r6 h3 e hF)
    · rw [if_pos c31] at e
      refine V_pick [1, 2, 0] rfl ?_
      refine V_aload_n (pc := 21) (i := 1) dX10_readComparison_21 rfl rfl ?_
      refine V_bipush (pc := 22) (v := (62 : Int32)) dX10_readComparison_22 (by decide) ?_
      obtain ⟨r25, g24, e⟩ := ob_some e
      refine V_callV (pc := 24) (bc := 0) (bs := 0) (mc := 0) (ms := 0) (st := []) (As := [.int (62 : Int32)]) (a := v1) (h' := h3) (r := some (.int r25)) dX10_readComparison_24 ml_X10_65 (ci := 6) rfl (of_decide_eq_true g7) rfl rfl (Nat.le_of_ble_eq_true rfl) (d' := 0) (by decide) (c_X6_isSign (l := x.2.1) v1 (62 : Int32) h3 g24) ?_
      refine V_if_ne (pc := 27) (tgt := 35) dX10_readComparison_27 (by decide) (fun c30 => ?_) (fun c30 => ?_)
      · rw [if_neg c30] at e
        exact V_pick [0, 1, 2] rfl (r_X10_readComparison_b35 v0 v1 r6 h3 e hF)
      · rw [if_pos c30] at e
        refine V_pick [1] rfl ?_
        refine V_aload_n (pc := 30) (i := 1) dX10_readComparison_30 rfl rfl ?_
        obtain ⟨r27, h28, g26, e⟩ := ob2_some e
        refine V_callV (pc := 31) (bc := 0) (bs := 0) (mc := 0) (ms := 0) (st := []) (As := []) (a := v1) (h' := h28) (r := some (.int r27)) dX10_readComparison_31 ml_X10_72 (ci := 6) rfl (of_decide_eq_true g7) rfl rfl (Nat.le_of_ble_eq_true rfl) (d' := 0) (by decide) (c_X6_refuse (l := x.2.1) v1 h3 g26) ?_
        obtain ⟨g29, e⟩ := gd_some e
        cases e
        exact V_zret (pc := 34) dX10_readComparison_34 (z01 (of_decide_eq_true g29)) hF
  · rw [if_pos c32] at e
    refine V_pick [] rfl ?_
    refine V_iconst (pc := 8) (v := (0 : Int32)) dX10_readComparison_8 (by decide) ?_
    cases e
    exact V_zret (pc := 9) dX10_readComparison_9 rfl hF
def F_X10_readComparison (v0 : Nat) (v1 : Nat) (h : Hp) : Option (Int32 × Hp) := F_X10_readComparison_b0 v0 v1 h
theorem c_X10_readComparison {l : Launch} (v0 : Nat) (v1 : Nat) (h : Hp) {r : Int32} {hz : Hp} (e : F_X10_readComparison v0 v1 h = some (r, hz)) : Ct l yX10_readComparison M_X10_readComparison (some .boolean) 7 [.ref v0, .ref v1] h 0 0 (some (.int r)) hz :=
  Ct_of rfl rfl (fun q => by cases q) (Nat.le_of_ble_eq_true rfl) (fun x _ hF => V_pick [0, 1] rfl (r_X10_readComparison_b0 v0 v1 h e hF))

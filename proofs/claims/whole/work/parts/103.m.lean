theorem dX12_house_0 : decode cX12_house 0 = .ok (.aload_n 0, 1) := by decide +kernel
theorem dX12_house_1 : decode cX12_house 1 = .ok (.iconst 0, 1) := by decide +kernel
theorem dX12_house_2 : decode cX12_house 2 = .ok (.putfield 3, 3) := by decide +kernel
theorem dX12_house_5 : decode cX12_house 5 = .ok (.iconst 0, 1) := by decide +kernel
theorem dX12_house_6 : decode cX12_house 6 = .ok (.istore_n 1, 1) := by decide +kernel
theorem dX12_house_7 : decode cX12_house 7 = .ok (.iload_n 1, 1) := by decide +kernel
theorem dX12_house_8 : decode cX12_house 8 = .ok (.sipush 4232, 3) := by decide +kernel
theorem dX12_house_11 : decode cX12_house 11 = .ok (.if_icmp .ge 21, 3) := by decide +kernel
theorem dX12_house_14 : decode cX12_house 14 = .ok (.aload_n 0, 1) := by decide +kernel
theorem dX12_house_15 : decode cX12_house 15 = .ok (.getfield 20, 3) := by decide +kernel
theorem dX12_house_18 : decode cX12_house 18 = .ok (.iload_n 1, 1) := by decide +kernel
theorem dX12_house_19 : decode cX12_house 19 = .ok (.aload_n 0, 1) := by decide +kernel
theorem dX12_house_20 : decode cX12_house 20 = .ok (.getfield 13, 3) := by decide +kernel
theorem dX12_house_23 : decode cX12_house 23 = .ok (.iload_n 1, 1) := by decide +kernel
theorem dX12_house_24 : decode cX12_house 24 = .ok (.iaload, 1) := by decide +kernel
theorem dX12_house_25 : decode cX12_house 25 = .ok (.iastore, 1) := by decide +kernel
theorem dX12_house_26 : decode cX12_house 26 = .ok (.iinc 1 1, 3) := by decide +kernel
theorem dX12_house_29 : decode cX12_house 29 = .ok (.goto (-22), 3) := by decide +kernel
theorem dX12_house_32 : decode cX12_house 32 = .ok (.aload_n 0, 1) := by decide +kernel
theorem dX12_house_33 : decode cX12_house 33 = .ok (.iconst 0, 1) := by decide +kernel
theorem dX12_house_34 : decode cX12_house 34 = .ok (.invokevirtual 237, 3) := by decide +kernel
theorem dX12_house_37 : decode cX12_house 37 = .ok (.istore_n 1, 1) := by decide +kernel
theorem dX12_house_38 : decode cX12_house 38 = .ok (.aload_n 0, 1) := by decide +kernel
theorem dX12_house_39 : decode cX12_house 39 = .ok (.iload_n 1, 1) := by decide +kernel
theorem dX12_house_40 : decode cX12_house 40 = .ok (.ifCond .ge 10, 3) := by decide +kernel
theorem dX12_house_43 : decode cX12_house 43 = .ok (.aload_n 0, 1) := by decide +kernel
theorem dX12_house_44 : decode cX12_house 44 = .ok (.getfield 93, 3) := by decide +kernel
theorem dX12_house_47 : decode cX12_house 47 = .ok (.goto 4, 3) := by decide +kernel
theorem dX12_house_50 : decode cX12_house 50 = .ok (.iconst (-1), 1) := by decide +kernel
theorem dX12_house_51 : decode cX12_house 51 = .ok (.putfield 27, 3) := by decide +kernel
theorem dX12_house_54 : decode cX12_house 54 = .ok (.aload_n 0, 1) := by decide +kernel
theorem dX12_house_55 : decode cX12_house 55 = .ok (.iload_n 1, 1) := by decide +kernel
theorem dX12_house_56 : decode cX12_house 56 = .ok (.ifCond .ge 7, 3) := by decide +kernel
theorem dX12_house_59 : decode cX12_house 59 = .ok (.iconst 1, 1) := by decide +kernel
theorem dX12_house_60 : decode cX12_house 60 = .ok (.goto 4, 3) := by decide +kernel
theorem dX12_house_63 : decode cX12_house 63 = .ok (.iconst 0, 1) := by decide +kernel
theorem dX12_house_64 : decode cX12_house 64 = .ok (.iconst 1, 1) := by decide +kernel
theorem dX12_house_65 : decode cX12_house 65 = .ok (.invokevirtual 240, 3) := by decide +kernel
theorem dX12_house_68 : decode cX12_house 68 = .ok (.ifCond .ne 27, 3) := by decide +kernel
theorem dX12_house_71 : decode cX12_house 71 = .ok (.aload_n 0, 1) := by decide +kernel
theorem dX12_house_72 : decode cX12_house 72 = .ok (.aload_n 0, 1) := by decide +kernel
theorem dX12_house_73 : decode cX12_house 73 = .ok (.getfield 13, 3) := by decide +kernel
theorem dX12_house_76 : decode cX12_house 76 = .ok (.iconst 3, 1) := by decide +kernel
theorem dX12_house_77 : decode cX12_house 77 = .ok (.iaload, 1) := by decide +kernel
theorem dX12_house_78 : decode cX12_house 78 = .ok (.bipush 10, 2) := by decide +kernel
theorem dX12_house_80 : decode cX12_house 80 = .ok (.if_icmp .ne 7, 3) := by decide +kernel
theorem dX12_house_83 : decode cX12_house 83 = .ok (.iconst 1, 1) := by decide +kernel
theorem dX12_house_84 : decode cX12_house 84 = .ok (.goto 4, 3) := by decide +kernel
theorem dX12_house_87 : decode cX12_house 87 = .ok (.iconst 0, 1) := by decide +kernel
theorem dX12_house_88 : decode cX12_house 88 = .ok (.iconst 2, 1) := by decide +kernel
theorem dX12_house_89 : decode cX12_house 89 = .ok (.invokevirtual 240, 3) := by decide +kernel
theorem dX12_house_92 : decode cX12_house 92 = .ok (.ifCond .eq 32, 3) := by decide +kernel
theorem dX12_house_95 : decode cX12_house 95 = .ok (.iconst 0, 1) := by decide +kernel
theorem dX12_house_96 : decode cX12_house 96 = .ok (.istore_n 2, 1) := by decide +kernel
theorem dX12_house_97 : decode cX12_house 97 = .ok (.iload_n 2, 1) := by decide +kernel
theorem dX12_house_98 : decode cX12_house 98 = .ok (.sipush 4232, 3) := by decide +kernel
theorem dX12_house_101 : decode cX12_house 101 = .ok (.if_icmp .ge 21, 3) := by decide +kernel
theorem dX12_house_104 : decode cX12_house 104 = .ok (.aload_n 0, 1) := by decide +kernel
theorem dX12_house_105 : decode cX12_house 105 = .ok (.getfield 13, 3) := by decide +kernel
theorem dX12_house_108 : decode cX12_house 108 = .ok (.iload_n 2, 1) := by decide +kernel
theorem dX12_house_109 : decode cX12_house 109 = .ok (.aload_n 0, 1) := by decide +kernel
theorem dX12_house_110 : decode cX12_house 110 = .ok (.getfield 20, 3) := by decide +kernel
theorem dX12_house_113 : decode cX12_house 113 = .ok (.iload_n 2, 1) := by decide +kernel
theorem dX12_house_114 : decode cX12_house 114 = .ok (.iaload, 1) := by decide +kernel
theorem dX12_house_115 : decode cX12_house 115 = .ok (.iastore, 1) := by decide +kernel
theorem dX12_house_116 : decode cX12_house 116 = .ok (.iinc 2 1, 3) := by decide +kernel
theorem dX12_house_119 : decode cX12_house 119 = .ok (.goto (-22), 3) := by decide +kernel
theorem dX12_house_122 : decode cX12_house 122 = .ok (.iconst 0, 1) := by decide +kernel
theorem dX12_house_123 : decode cX12_house 123 = .ok (.ireturn, 1) := by decide +kernel
theorem dX12_house_124 : decode cX12_house 124 = .ok (.aload_n 0, 1) := by decide +kernel
theorem dX12_house_125 : decode cX12_house 125 = .ok (.getfield 13, 3) := by decide +kernel
theorem dX12_house_128 : decode cX12_house 128 = .ok (.iconst 3, 1) := by decide +kernel
theorem dX12_house_129 : decode cX12_house 129 = .ok (.dup2, 1) := by decide +kernel
theorem dX12_house_130 : decode cX12_house 130 = .ok (.iaload, 1) := by decide +kernel
theorem dX12_house_131 : decode cX12_house 131 = .ok (.iconst 1, 1) := by decide +kernel
theorem dX12_house_132 : decode cX12_house 132 = .ok (.iadd, 1) := by decide +kernel
theorem dX12_house_133 : decode cX12_house 133 = .ok (.iastore, 1) := by decide +kernel
theorem dX12_house_134 : decode cX12_house 134 = .ok (.aload_n 0, 1) := by decide +kernel
theorem dX12_house_135 : decode cX12_house 135 = .ok (.getfield 13, 3) := by decide +kernel
theorem dX12_house_138 : decode cX12_house 138 = .ok (.iconst 3, 1) := by decide +kernel
theorem dX12_house_139 : decode cX12_house 139 = .ok (.iaload, 1) := by decide +kernel
theorem dX12_house_140 : decode cX12_house 140 = .ok (.ireturn, 1) := by decide +kernel
set_option maxRecDepth 100000 in
def F_X12_house_l7 (v0 : Nat) (v1 : Int32) (h : Hp) : Option ((Int32 × Hp) ⊕ Hp) :=
  (if (4232 : Int32) ≤ v1 then some (.inr h) else gd (decide (kd h v0 = 11)) <| ob (zR h v0 3) fun q3 => ob (zR h v0 1) fun q5 => gd (decide (kd h q5 = 13)) <| gd (ix v1 (zl h q5)) <| gd (decide (kd h q3 = 13)) <| gd (ix v1 (zl h q3)) <| some (.inl (v1 + (1 : Int32), setI h q3 (v1).toNatClampNeg (zI h q5 (v1).toNatClampNeg))))
set_option maxHeartbeats 4000000 in
set_option maxRecDepth 100000 in
theorem r_X12_house_l7 (v0 : Nat) (v1 : Int32) (h : Hp) {x : Cx} {o : ((Int32 × Hp) ⊕ Hp)} (e : F_X12_house_l7 v0 v1 h = some o) (kI : ∀ z, o = .inl z → V M_X12_house x 64 7 [(0, .ref v0), (1, .int z.1)] [] z.2 0 0) (kE32 : ∀ z : Hp, o = .inr z → V M_X12_house x 64 32 [(0, .ref v0)] [] z 0 0) : V M_X12_house x 64 7 [(0, .ref v0), (1, .int v1)] [] h 0 0 := by
  unfold F_X12_house_l7 at e
  refine V_iload_n (pc := 7) (i := 1) dX12_house_7 rfl rfl ?_
  refine V_sipush (pc := 8) (v := (4232 : Int32)) dX12_house_8 (by decide) ?_
  refine V_icmp_ge (pc := 11) (tgt := 32) dX12_house_11 (by decide) (fun c11 => ?_) (fun c11 => ?_)
  · rw [if_pos c11] at e
    cases e
    exact V_pick [0] rfl (kE32 h rfl)
  · rw [if_neg c11] at e
    refine V_pick [0, 1] rfl ?_
    refine V_aload_n (pc := 14) (i := 0) dX12_house_14 rfl rfl ?_
    obtain ⟨g2, e⟩ := gd_some e
    obtain ⟨q3, g4, e⟩ := ob_some e
    refine V_getR (pc := 15) (ci := 11) (k := 3) (b := q3) dX12_house_15 fl_X12_20 rfl (of_decide_eq_true g2) g4 ?_
    refine V_iload_n (pc := 18) (i := 1) dX12_house_18 rfl rfl ?_
    refine V_aload_n (pc := 19) (i := 0) dX12_house_19 rfl rfl ?_
    obtain ⟨q5, g6, e⟩ := ob_some e
    refine V_getR (pc := 20) (ci := 11) (k := 1) (b := q5) dX12_house_20 fl_X12_13 rfl (of_decide_eq_true g2) g6 ?_
    refine V_iload_n (pc := 23) (i := 1) dX12_house_23 rfl rfl ?_
    obtain ⟨g7, e⟩ := gd_some e
    obtain ⟨g8, e⟩ := gd_some e
    refine V_iald (pc := 24) dX12_house_24 (of_decide_eq_true g7) (ix_in g8) ?_
    obtain ⟨g9, e⟩ := gd_some e
    obtain ⟨g10, e⟩ := gd_some e
    refine V_iast (pc := 25) dX12_house_25 (of_decide_eq_true g9) (ix_in g10) ?_
    refine V_iinc (pc := 26) (i := 1) (u := v1 + (1 : Int32)) (lv' := [(1, .int (v1 + (1 : Int32))), (0, .ref v0)]) dX12_house_26 rfl rfl (by decide) rfl ?_
    refine V_goto (pc := 29) (tgt := 7) dX12_house_29 (by decide) ?_
    cases e
    exact V_pick [1, 0] rfl (kI (v1 + (1 : Int32), setI h q3 (v1).toNatClampNeg (zI h q5 (v1).toNatClampNeg)) rfl)
set_option maxRecDepth 100000 in
def F_X12_house_l97 (v0 : Nat) (v2 : Int32) (h : Hp) : Option ((Int32 × Hp) ⊕ Hp) :=
  (if (4232 : Int32) ≤ v2 then some (.inr h) else gd (decide (kd h v0 = 11)) <| ob (zR h v0 1) fun q23 => ob (zR h v0 3) fun q25 => gd (decide (kd h q25 = 13)) <| gd (ix v2 (zl h q25)) <| gd (decide (kd h q23 = 13)) <| gd (ix v2 (zl h q23)) <| some (.inl (v2 + (1 : Int32), setI h q23 (v2).toNatClampNeg (zI h q25 (v2).toNatClampNeg))))
set_option maxHeartbeats 4000000 in
set_option maxRecDepth 100000 in
theorem r_X12_house_l97 (v0 : Nat) (v2 : Int32) (h : Hp) {x : Cx} {o : ((Int32 × Hp) ⊕ Hp)} (e : F_X12_house_l97 v0 v2 h = some o) (kI : ∀ z, o = .inl z → V M_X12_house x 64 97 [(0, .ref v0), (2, .int z.1)] [] z.2 0 0) (kE122 : ∀ z : Hp, o = .inr z → V M_X12_house x 64 122 [] [] z 0 0) : V M_X12_house x 64 97 [(0, .ref v0), (2, .int v2)] [] h 0 0 := by
  unfold F_X12_house_l97 at e
  refine V_iload_n (pc := 97) (i := 2) dX12_house_97 rfl rfl ?_
  refine V_sipush (pc := 98) (v := (4232 : Int32)) dX12_house_98 (by decide) ?_
  refine V_icmp_ge (pc := 101) (tgt := 122) dX12_house_101 (by decide) (fun c31 => ?_) (fun c31 => ?_)
  · rw [if_pos c31] at e
    cases e
    exact V_pick [] rfl (kE122 h rfl)
  · rw [if_neg c31] at e
    refine V_pick [0, 1] rfl ?_
    refine V_aload_n (pc := 104) (i := 0) dX12_house_104 rfl rfl ?_
    obtain ⟨g22, e⟩ := gd_some e
    obtain ⟨q23, g24, e⟩ := ob_some e
    refine V_getR (pc := 105) (ci := 11) (k := 1) (b := q23) dX12_house_105 fl_X12_13 rfl (of_decide_eq_true g22) g24 ?_
    refine V_iload_n (pc := 108) (i := 2) dX12_house_108 rfl rfl ?_
    refine V_aload_n (pc := 109) (i := 0) dX12_house_109 rfl rfl ?_
    obtain ⟨q25, g26, e⟩ := ob_some e
    refine V_getR (pc := 110) (ci := 11) (k := 3) (b := q25) dX12_house_110 fl_X12_20 rfl (of_decide_eq_true g22) g26 ?_
    refine V_iload_n (pc := 113) (i := 2) dX12_house_113 rfl rfl ?_
    obtain ⟨g27, e⟩ := gd_some e
    obtain ⟨g28, e⟩ := gd_some e
    refine V_iald (pc := 114) dX12_house_114 (of_decide_eq_true g27) (ix_in g28) ?_
    obtain ⟨g29, e⟩ := gd_some e
    obtain ⟨g30, e⟩ := gd_some e
    refine V_iast (pc := 115) dX12_house_115 (of_decide_eq_true g29) (ix_in g30) ?_
    refine V_iinc (pc := 116) (i := 2) (u := v2 + (1 : Int32)) (lv' := [(2, .int (v2 + (1 : Int32))), (0, .ref v0)]) dX12_house_116 rfl rfl (by decide) rfl ?_
    refine V_goto (pc := 119) (tgt := 97) dX12_house_119 (by decide) ?_
    cases e
    exact V_pick [1, 0] rfl (kI (v2 + (1 : Int32), setI h q23 (v2).toNatClampNeg (zI h q25 (v2).toNatClampNeg)) rfl)
set_option maxRecDepth 100000 in
def F_X12_house_b95 (v0 : Nat) (h : Hp) : Option (Int32 × Hp) :=
  ob (iter (fun z : Int32 × Hp => F_X12_house_l97 v0 z.1 z.2) FU ((0 : Int32), h)) (fun h32 => some ((0 : Int32), h32))
set_option maxHeartbeats 4000000 in
set_option maxRecDepth 100000 in
theorem r_X12_house_b95 (v0 : Nat) (h : Hp) {x : Cx} {r : Int32} {hz : Hp} (e : F_X12_house_b95 v0 h = some (r, hz)) (hF : Fin9 M_X12_house x (some .int) (some (.int r)) hz) : V M_X12_house x 64 95 [(0, .ref v0)] [] h 0 0 := by
  unfold F_X12_house_b95 at e
  refine V_iconst (pc := 95) (v := (0 : Int32)) dX12_house_95 (by decide) ?_
  refine V_istore_n (pc := 96) (i := 2) (lv' := [(2, .int (0 : Int32)), (0, .ref v0)]) dX12_house_96 rfl (by decide) rfl ?_
  refine V_pick [1, 0] rfl ?_
  obtain ⟨y33, g34, e⟩ := ob_some e
  refine iter_V (P := fun z : Int32 × Hp => V M_X12_house x 64 97 [(0, .ref v0), (2, .int z.1)] [] z.2 0 0) (E := fun z : Hp => V M_X12_house x 64 122 [] [] z 0 0) (fun z o e9 k1 k2 => r_X12_house_l97 v0 z.1 z.2 e9 (fun z hz9 => k1 z hz9) (fun z hz9 => k2 _ hz9)) _ _ _ g34 ?_
  clear g34
  obtain ⟨h32, rfl⟩ : ∃ q, q = y33 := ⟨_, rfl⟩
  replace e : (some ((0 : Int32), h32)) = some (r, hz) := e
  show V M_X12_house x 64 122 [] [] h32 0 0
  refine V_iconst (pc := 122) (v := (0 : Int32)) dX12_house_122 (by decide) ?_
  cases e
  exact V_iret (pc := 123) dX12_house_123 hF
set_option maxRecDepth 100000 in
def F_X12_house_b88 (v0 : Nat) (t0 : Nat) (t1 : Int32) (h : Hp) : Option (Int32 × Hp) :=
  ob2 (F_X12_throwsIf t0 t1 (2 : Int32) h) fun r41 h42 => gd (decide (kd h t0 = 11)) <| (if r41 = 0 then gd (decide (kd h42 v0 = 11)) <| ob (zR h42 v0 1) fun q45 => gd (decide (kd h42 q45 = 13)) <| gd (ix (3 : Int32) (zl h42 q45)) <| gd (ix (3 : Int32) (zl h42 q45)) <| ob (zR (setI h42 q45 ((3 : Int32)).toNatClampNeg ((zI h42 q45 ((3 : Int32)).toNatClampNeg) + (1 : Int32))) v0 1) fun q50 => gd (decide (kd (setI h42 q45 ((3 : Int32)).toNatClampNeg ((zI h42 q45 ((3 : Int32)).toNatClampNeg) + (1 : Int32))) q50 = 13)) <| gd (ix (3 : Int32) (zl (setI h42 q45 ((3 : Int32)).toNatClampNeg ((zI h42 q45 ((3 : Int32)).toNatClampNeg) + (1 : Int32))) q50)) <| some (zI (setI h42 q45 ((3 : Int32)).toNatClampNeg ((zI h42 q45 ((3 : Int32)).toNatClampNeg) + (1 : Int32))) q50 ((3 : Int32)).toNatClampNeg, setI h42 q45 ((3 : Int32)).toNatClampNeg ((zI h42 q45 ((3 : Int32)).toNatClampNeg) + (1 : Int32))) else F_X12_house_b95 v0 h42)
set_option maxHeartbeats 4000000 in
set_option maxRecDepth 100000 in
theorem r_X12_house_b88 (v0 : Nat) (t0 : Nat) (t1 : Int32) (h : Hp) {x : Cx} {r : Int32} {hz : Hp} (e : F_X12_house_b88 v0 t0 t1 h = some (r, hz)) (hF : Fin9 M_X12_house x (some .int) (some (.int r)) hz) : V M_X12_house x 64 88 [(0, .ref v0)] [.int t1, .ref t0] h 0 0 := by
  unfold F_X12_house_b88 at e
  refine V_iconst (pc := 88) (v := (2 : Int32)) dX12_house_88 (by decide) ?_
  obtain ⟨r41, h42, g40, e⟩ := ob2_some e
  obtain ⟨g43, e⟩ := gd_some e
  refine V_callV (pc := 89) (bc := 0) (bs := 0) (mc := 0) (ms := 0) (st := []) (As := [.int t1, .int (2 : Int32)]) (a := t0) (h' := h42) (r := some (.int r41)) dX12_house_89 ml_X12_240 (ci := 11) rfl (of_decide_eq_true g43) rfl rfl (Nat.le_of_ble_eq_true rfl) (d' := 0) (by decide) (c_X12_throwsIf (l := x.2.1) t0 t1 (2 : Int32) h g40) ?_
  refine V_if_eq (pc := 92) (tgt := 124) dX12_house_92 (by decide) (fun c54 => ?_) (fun c54 => ?_)
  · rw [if_pos c54] at e
    refine V_pick [0] rfl ?_
    refine V_aload_n (pc := 124) (i := 0) dX12_house_124 rfl rfl ?_
    obtain ⟨g44, e⟩ := gd_some e
    obtain ⟨q45, g46, e⟩ := ob_some e
    refine V_getR (pc := 125) (ci := 11) (k := 1) (b := q45) dX12_house_125 fl_X12_13 rfl (of_decide_eq_true g44) g46 ?_
    refine V_iconst (pc := 128) (v := (3 : Int32)) dX12_house_128 (by decide) ?_
    refine V_dup2 (pc := 129) dX12_house_129 rfl rfl ?_
    obtain ⟨g47, e⟩ := gd_some e
    obtain ⟨g48, e⟩ := gd_some e
    refine V_iald (pc := 130) dX12_house_130 (of_decide_eq_true g47) (ix_in g48) ?_
    refine V_iconst (pc := 131) (v := (1 : Int32)) dX12_house_131 (by decide) ?_
    refine V_iadd (pc := 132) dX12_house_132 ?_
    obtain ⟨g49, e⟩ := gd_some e
    refine V_iast (pc := 133) dX12_house_133 (of_decide_eq_true g47) (ix_in g49) ?_
    refine V_aload_n (pc := 134) (i := 0) dX12_house_134 rfl rfl ?_
    obtain ⟨q50, g51, e⟩ := ob_some e
    refine V_getR (pc := 135) (ci := 11) (k := 1) (b := q50) dX12_house_135 fl_X12_13 rfl (kd_sI (of_decide_eq_true g44)) g51 ?_
    refine V_iconst (pc := 138) (v := (3 : Int32)) dX12_house_138 (by decide) ?_
    obtain ⟨g52, e⟩ := gd_some e
    obtain ⟨g53, e⟩ := gd_some e
    refine V_iald (pc := 139) dX12_house_139 (of_decide_eq_true g52) (ix_in g53) ?_
    cases e
    exact V_iret (pc := 140) dX12_house_140 hF
  · rw [if_neg c54] at e
    exact V_pick [0] rfl (r_X12_house_b95 v0 h42 e hF)
set_option maxRecDepth 100000 in
def F_X12_house_b64 (v0 : Nat) (t0 : Nat) (t1 : Int32) (h : Hp) : Option (Int32 × Hp) :=
  ob2 (F_X12_throwsIf t0 t1 (1 : Int32) h) fun r19 h20 => gd (decide (kd h t0 = 11)) <| (if r19 = 0 then gd (decide (kd h20 v0 = 11)) <| ob (zR h20 v0 1) fun q36 => gd (decide (kd h20 q36 = 13)) <| gd (ix (3 : Int32) (zl h20 q36)) <| (if (zI h20 q36 ((3 : Int32)).toNatClampNeg) = (10 : Int32) then F_X12_house_b88 v0 v0 (1 : Int32) h20 else F_X12_house_b88 v0 v0 (0 : Int32) h20) else F_X12_house_b95 v0 h20)
set_option maxHeartbeats 4000000 in
set_option maxRecDepth 100000 in
theorem r_X12_house_b64 (v0 : Nat) (t0 : Nat) (t1 : Int32) (h : Hp) {x : Cx} {r : Int32} {hz : Hp} (e : F_X12_house_b64 v0 t0 t1 h = some (r, hz)) (hF : Fin9 M_X12_house x (some .int) (some (.int r)) hz) : V M_X12_house x 64 64 [(0, .ref v0)] [.int t1, .ref t0] h 0 0 := by
  unfold F_X12_house_b64 at e
  refine V_iconst (pc := 64) (v := (1 : Int32)) dX12_house_64 (by decide) ?_
  obtain ⟨r19, h20, g18, e⟩ := ob2_some e
  obtain ⟨g21, e⟩ := gd_some e
  refine V_callV (pc := 65) (bc := 0) (bs := 0) (mc := 0) (ms := 0) (st := []) (As := [.int t1, .int (1 : Int32)]) (a := t0) (h' := h20) (r := some (.int r19)) dX12_house_65 ml_X12_240 (ci := 11) rfl (of_decide_eq_true g21) rfl rfl (Nat.le_of_ble_eq_true rfl) (d' := 0) (by decide) (c_X12_throwsIf (l := x.2.1) t0 t1 (1 : Int32) h g18) ?_
  refine V_if_ne (pc := 68) (tgt := 95) dX12_house_68 (by decide) (fun c56 => ?_) (fun c56 => ?_)
  · rw [if_neg c56] at e
    exact V_pick [0] rfl (r_X12_house_b95 v0 h20 e hF)
  · rw [if_pos c56] at e
    refine V_pick [0] rfl ?_
    refine V_aload_n (pc := 71) (i := 0) dX12_house_71 rfl rfl ?_
    refine V_aload_n (pc := 72) (i := 0) dX12_house_72 rfl rfl ?_
    obtain ⟨g35, e⟩ := gd_some e
    obtain ⟨q36, g37, e⟩ := ob_some e
    refine V_getR (pc := 73) (ci := 11) (k := 1) (b := q36) dX12_house_73 fl_X12_13 rfl (of_decide_eq_true g35) g37 ?_
    refine V_iconst (pc := 76) (v := (3 : Int32)) dX12_house_76 (by decide) ?_
    obtain ⟨g38, e⟩ := gd_some e
    obtain ⟨g39, e⟩ := gd_some e
    refine V_iald (pc := 77) dX12_house_77 (of_decide_eq_true g38) (ix_in g39) ?_
    refine V_bipush (pc := 78) (v := (10 : Int32)) dX12_house_78 (by decide) ?_
    refine V_icmp_ne (pc := 80) (tgt := 87) dX12_house_80 (by decide) (fun c55 => ?_) (fun c55 => ?_)
    · rw [if_neg c55] at e
      refine V_pick [0] rfl ?_
      refine V_iconst (pc := 87) (v := (0 : Int32)) dX12_house_87 (by decide) ?_
      exact V_pick [0] rfl (r_X12_house_b88 v0 v0 (0 : Int32) h20 e hF)
    · rw [if_pos c55] at e
      refine V_pick [0] rfl ?_
      refine V_iconst (pc := 83) (v := (1 : Int32)) dX12_house_83 (by decide) ?_
      refine V_goto (pc := 84) (tgt := 88) dX12_house_84 (by decide) ?_
      exact V_pick [0] rfl (r_X12_house_b88 v0 v0 (1 : Int32) h20 e hF)
set_option maxRecDepth 100000 in
def F_X12_house_b51 (v0 : Nat) (v1 : Int32) (t0 : Nat) (t1 : Int32) (h : Hp) : Option (Int32 × Hp) :=
  gd (decide (kd h t0 = 11)) <| (if 0 ≤ v1 then F_X12_house_b64 v0 v0 (0 : Int32) (setI h t0 11 t1) else F_X12_house_b64 v0 v0 (1 : Int32) (setI h t0 11 t1))
set_option maxHeartbeats 4000000 in
set_option maxRecDepth 100000 in
theorem r_X12_house_b51 (v0 : Nat) (v1 : Int32) (t0 : Nat) (t1 : Int32) (h : Hp) {x : Cx} {r : Int32} {hz : Hp} (e : F_X12_house_b51 v0 v1 t0 t1 h = some (r, hz)) (hF : Fin9 M_X12_house x (some .int) (some (.int r)) hz) : V M_X12_house x 64 51 [(0, .ref v0), (1, .int v1)] [.int t1, .ref t0] h 0 0 := by
  unfold F_X12_house_b51 at e
  obtain ⟨g17, e⟩ := gd_some e
  refine V_putI (pc := 51) (ci := 11) (k := 11) dX12_house_51 fp_X12_27 rfl (of_decide_eq_true g17) ?_
  refine V_aload_n (pc := 54) (i := 0) dX12_house_54 rfl rfl ?_
  refine V_iload_n (pc := 55) (i := 1) dX12_house_55 rfl rfl ?_
  refine V_if_ge (pc := 56) (tgt := 63) dX12_house_56 (by decide) (fun c57 => ?_) (fun c57 => ?_)
  · rw [if_pos c57] at e
    refine V_pick [0] rfl ?_
    refine V_iconst (pc := 63) (v := (0 : Int32)) dX12_house_63 (by decide) ?_
    exact V_pick [0] rfl (r_X12_house_b64 v0 v0 (0 : Int32) (setI h t0 11 t1) e hF)
  · rw [if_neg c57] at e
    refine V_pick [0] rfl ?_
    refine V_iconst (pc := 59) (v := (1 : Int32)) dX12_house_59 (by decide) ?_
    refine V_goto (pc := 60) (tgt := 64) dX12_house_60 (by decide) ?_
    exact V_pick [0] rfl (r_X12_house_b64 v0 v0 (1 : Int32) (setI h t0 11 t1) e hF)
set_option maxRecDepth 100000 in
def F_X12_house_b0 (v0 : Nat) (h : Hp) : Option (Int32 × Hp) :=
  gd (decide (kd h v0 = 11)) <| ob (iter (fun z : Int32 × Hp => F_X12_house_l7 v0 z.1 z.2) FU ((0 : Int32), setI h v0 0 (0 : Int32))) (fun h12 => ob2 (F_X12_readAll v0 (0 : Int32) h12) fun r14 h15 => gd (decide (kd h12 v0 = 11)) <| (if 0 ≤ r14 then F_X12_house_b51 v0 r14 v0 (-1 : Int32) h15 else gd (decide (kd h15 v0 = 11)) <| F_X12_house_b51 v0 r14 v0 (zI h15 v0 9) h15))
set_option maxHeartbeats 4000000 in
set_option maxRecDepth 100000 in
theorem r_X12_house_b0 (v0 : Nat) (h : Hp) {x : Cx} {r : Int32} {hz : Hp} (e : F_X12_house_b0 v0 h = some (r, hz)) (hF : Fin9 M_X12_house x (some .int) (some (.int r)) hz) : V M_X12_house x 64 0 [(0, .ref v0)] [] h 0 0 := by
  unfold F_X12_house_b0 at e
  refine V_aload_n (pc := 0) (i := 0) dX12_house_0 rfl rfl ?_
  refine V_iconst (pc := 1) (v := (0 : Int32)) dX12_house_1 (by decide) ?_
  obtain ⟨g1, e⟩ := gd_some e
  refine V_putI (pc := 2) (ci := 11) (k := 0) dX12_house_2 fp_X12_3 rfl (of_decide_eq_true g1) ?_
  refine V_iconst (pc := 5) (v := (0 : Int32)) dX12_house_5 (by decide) ?_
  refine V_istore_n (pc := 6) (i := 1) (lv' := [(1, .int (0 : Int32)), (0, .ref v0)]) dX12_house_6 rfl (by decide) rfl ?_
  refine V_pick [1, 0] rfl ?_
  obtain ⟨y60, g61, e⟩ := ob_some e
  refine iter_V (P := fun z : Int32 × Hp => V M_X12_house x 64 7 [(0, .ref v0), (1, .int z.1)] [] z.2 0 0) (E := fun z : Hp => V M_X12_house x 64 32 [(0, .ref v0)] [] z 0 0) (fun z o e9 k1 k2 => r_X12_house_l7 v0 z.1 z.2 e9 (fun z hz9 => k1 z hz9) (fun z hz9 => k2 _ hz9)) _ _ _ g61 ?_
  clear g61
  obtain ⟨h12, rfl⟩ : ∃ q, q = y60 := ⟨_, rfl⟩
  replace e : (ob2 (F_X12_readAll v0 (0 : Int32) h12) fun r14 h15 => gd (decide (kd h12 v0 = 11)) <| (if 0 ≤ r14 then F_X12_house_b51 v0 r14 v0 (-1 : Int32) h15 else gd (decide (kd h15 v0 = 11)) <| F_X12_house_b51 v0 r14 v0 (zI h15 v0 9) h15)) = some (r, hz) := e
  show V M_X12_house x 64 32 [(0, .ref v0)] [] h12 0 0
  refine V_aload_n (pc := 32) (i := 0) dX12_house_32 rfl rfl ?_
  refine V_iconst (pc := 33) (v := (0 : Int32)) dX12_house_33 (by decide) ?_
  obtain ⟨r14, h15, g13, e⟩ := ob2_some e
  obtain ⟨g16, e⟩ := gd_some e
  refine V_callV (pc := 34) (bc := 0) (bs := 0) (mc := 0) (ms := 0) (st := []) (As := [.int (0 : Int32)]) (a := v0) (h' := h15) (r := some (.int r14)) dX12_house_34 ml_X12_237 (ci := 11) rfl (of_decide_eq_true g16) rfl rfl (Nat.le_of_ble_eq_true rfl) (d' := 63) (by decide) (c_X12_readAll (l := x.2.1) v0 (0 : Int32) h12 g13) ?_
  refine V_istore_n (pc := 37) (i := 1) (lv' := [(1, .int r14), (0, .ref v0)]) dX12_house_37 rfl (by decide) rfl ?_
  refine V_aload_n (pc := 38) (i := 0) dX12_house_38 rfl rfl ?_
  refine V_iload_n (pc := 39) (i := 1) dX12_house_39 rfl rfl ?_
  refine V_if_ge (pc := 40) (tgt := 50) dX12_house_40 (by decide) (fun c59 => ?_) (fun c59 => ?_)
  · rw [if_pos c59] at e
    refine V_pick [1, 0] rfl ?_
    refine V_iconst (pc := 50) (v := (-1 : Int32)) dX12_house_50 (by decide) ?_
    exact V_pick [0, 1] rfl (r_X12_house_b51 v0 r14 v0 (-1 : Int32) h15 e hF)
  · rw [if_neg c59] at e
    refine V_pick [1, 0] rfl ?_
    refine V_aload_n (pc := 43) (i := 0) dX12_house_43 rfl rfl ?_
    obtain ⟨g58, e⟩ := gd_some e
    refine V_getI (pc := 44) (ci := 11) (k := 9) dX12_house_44 fl_X12_93 rfl (of_decide_eq_true g58) ?_
    refine V_goto (pc := 47) (tgt := 51) dX12_house_47 (by decide) ?_
    exact V_pick [0, 1] rfl (r_X12_house_b51 v0 r14 v0 (zI h15 v0 9) h15 e hF)
def F_X12_house (v0 : Nat) (h : Hp) : Option (Int32 × Hp) := F_X12_house_b0 v0 h
theorem c_X12_house {l : Launch} (v0 : Nat) (h : Hp) {r : Int32} {hz : Hp} (e : F_X12_house v0 h = some (r, hz)) : Ct l yX12_house M_X12_house (some .int) 64 [.ref v0] h 0 0 (some (.int r)) hz :=
  Ct_of rfl rfl (fun q => by cases q) (Nat.le_of_ble_eq_true rfl) (fun x _ hF => V_pick [0] rfl (r_X12_house_b0 v0 h e hF))
theorem dX12_wishes_0 : decode cX12_wishes 0 = .ok (.aload_n 0, 1) := by decide +kernel
theorem dX12_wishes_1 : decode cX12_wishes 1 = .ok (.iconst 0, 1) := by decide +kernel
theorem dX12_wishes_2 : decode cX12_wishes 2 = .ok (.putfield 3, 3) := by decide +kernel
theorem dX12_wishes_5 : decode cX12_wishes 5 = .ok (.aload_n 0, 1) := by decide +kernel
theorem dX12_wishes_6 : decode cX12_wishes 6 = .ok (.aload_n 0, 1) := by decide +kernel
theorem dX12_wishes_7 : decode cX12_wishes 7 = .ok (.iload_n 1, 1) := by decide +kernel
theorem dX12_wishes_8 : decode cX12_wishes 8 = .ok (.invokevirtual 244, 3) := by decide +kernel
theorem dX12_wishes_11 : decode cX12_wishes 11 = .ok (.iconst 1, 1) := by decide +kernel
theorem dX12_wishes_12 : decode cX12_wishes 12 = .ok (.invokevirtual 240, 3) := by decide +kernel
theorem dX12_wishes_15 : decode cX12_wishes 15 = .ok (.ifCond .eq 10, 3) := by decide +kernel
theorem dX12_wishes_18 : decode cX12_wishes 18 = .ok (.aload_n 0, 1) := by decide +kernel
theorem dX12_wishes_19 : decode cX12_wishes 19 = .ok (.iconst 0, 1) := by decide +kernel
theorem dX12_wishes_20 : decode cX12_wishes 20 = .ok (.putfield 80, 3) := by decide +kernel
theorem dX12_wishes_23 : decode cX12_wishes 23 = .ok (.iconst 0, 1) := by decide +kernel
theorem dX12_wishes_24 : decode cX12_wishes 24 = .ok (.ireturn, 1) := by decide +kernel
theorem dX12_wishes_25 : decode cX12_wishes 25 = .ok (.aload_n 0, 1) := by decide +kernel
theorem dX12_wishes_26 : decode cX12_wishes 26 = .ok (.iconst 1, 1) := by decide +kernel
theorem dX12_wishes_27 : decode cX12_wishes 27 = .ok (.invokevirtual 237, 3) := by decide +kernel
theorem dX12_wishes_30 : decode cX12_wishes 30 = .ok (.istore_n 2, 1) := by decide +kernel
theorem dX12_wishes_31 : decode cX12_wishes 31 = .ok (.aload_n 0, 1) := by decide +kernel
theorem dX12_wishes_32 : decode cX12_wishes 32 = .ok (.iload_n 2, 1) := by decide +kernel
theorem dX12_wishes_33 : decode cX12_wishes 33 = .ok (.ifCond .ge 10, 3) := by decide +kernel
theorem dX12_wishes_36 : decode cX12_wishes 36 = .ok (.aload_n 0, 1) := by decide +kernel
theorem dX12_wishes_37 : decode cX12_wishes 37 = .ok (.getfield 93, 3) := by decide +kernel
theorem dX12_wishes_40 : decode cX12_wishes 40 = .ok (.goto 4, 3) := by decide +kernel
theorem dX12_wishes_43 : decode cX12_wishes 43 = .ok (.iconst (-1), 1) := by decide +kernel
theorem dX12_wishes_44 : decode cX12_wishes 44 = .ok (.putfield 27, 3) := by decide +kernel
theorem dX12_wishes_47 : decode cX12_wishes 47 = .ok (.aload_n 0, 1) := by decide +kernel
theorem dX12_wishes_48 : decode cX12_wishes 48 = .ok (.iload_n 2, 1) := by decide +kernel
theorem dX12_wishes_49 : decode cX12_wishes 49 = .ok (.ifCond .ge 7, 3) := by decide +kernel
theorem dX12_wishes_52 : decode cX12_wishes 52 = .ok (.iconst 1, 1) := by decide +kernel
theorem dX12_wishes_53 : decode cX12_wishes 53 = .ok (.goto 4, 3) := by decide +kernel
theorem dX12_wishes_56 : decode cX12_wishes 56 = .ok (.iconst 0, 1) := by decide +kernel
theorem dX12_wishes_57 : decode cX12_wishes 57 = .ok (.iconst 2, 1) := by decide +kernel
theorem dX12_wishes_58 : decode cX12_wishes 58 = .ok (.invokevirtual 240, 3) := by decide +kernel
theorem dX12_wishes_61 : decode cX12_wishes 61 = .ok (.ifCond .eq 5, 3) := by decide +kernel
theorem dX12_wishes_64 : decode cX12_wishes 64 = .ok (.iconst 0, 1) := by decide +kernel
theorem dX12_wishes_65 : decode cX12_wishes 65 = .ok (.ireturn, 1) := by decide +kernel
theorem dX12_wishes_66 : decode cX12_wishes 66 = .ok (.aload_n 0, 1) := by decide +kernel
theorem dX12_wishes_67 : decode cX12_wishes 67 = .ok (.getfield 13, 3) := by decide +kernel
theorem dX12_wishes_70 : decode cX12_wishes 70 = .ok (.sipush 4232, 3) := by decide +kernel
theorem dX12_wishes_73 : decode cX12_wishes 73 = .ok (.iload_n 2, 1) := by decide +kernel
theorem dX12_wishes_74 : decode cX12_wishes 74 = .ok (.iastore, 1) := by decide +kernel
theorem dX12_wishes_75 : decode cX12_wishes 75 = .ok (.iconst 0, 1) := by decide +kernel
theorem dX12_wishes_76 : decode cX12_wishes 76 = .ok (.istore_n 3, 1) := by decide +kernel
theorem dX12_wishes_77 : decode cX12_wishes 77 = .ok (.iload_n 3, 1) := by decide +kernel
theorem dX12_wishes_78 : decode cX12_wishes 78 = .ok (.sipush 817, 3) := by decide +kernel
theorem dX12_wishes_81 : decode cX12_wishes 81 = .ok (.if_icmp .ge 35, 3) := by decide +kernel
theorem dX12_wishes_84 : decode cX12_wishes 84 = .ok (.aload_n 0, 1) := by decide +kernel
theorem dX12_wishes_85 : decode cX12_wishes 85 = .ok (.getfield 13, 3) := by decide +kernel
theorem dX12_wishes_88 : decode cX12_wishes 88 = .ok (.sipush 147, 3) := by decide +kernel
theorem dX12_wishes_91 : decode cX12_wishes 91 = .ok (.sipush 817, 3) := by decide +kernel
theorem dX12_wishes_94 : decode cX12_wishes 94 = .ok (.iload_n 1, 1) := by decide +kernel
theorem dX12_wishes_95 : decode cX12_wishes 95 = .ok (.imul, 1) := by decide +kernel
theorem dX12_wishes_96 : decode cX12_wishes 96 = .ok (.iadd, 1) := by decide +kernel
theorem dX12_wishes_97 : decode cX12_wishes 97 = .ok (.iload_n 3, 1) := by decide +kernel
theorem dX12_wishes_98 : decode cX12_wishes 98 = .ok (.iadd, 1) := by decide +kernel
theorem dX12_wishes_99 : decode cX12_wishes 99 = .ok (.aload_n 0, 1) := by decide +kernel
theorem dX12_wishes_100 : decode cX12_wishes 100 = .ok (.getfield 13, 3) := by decide +kernel
theorem dX12_wishes_103 : decode cX12_wishes 103 = .ok (.sipush 4232, 3) := by decide +kernel
theorem dX12_wishes_106 : decode cX12_wishes 106 = .ok (.iload_n 3, 1) := by decide +kernel
theorem dX12_wishes_107 : decode cX12_wishes 107 = .ok (.iadd, 1) := by decide +kernel
theorem dX12_wishes_108 : decode cX12_wishes 108 = .ok (.iaload, 1) := by decide +kernel
theorem dX12_wishes_109 : decode cX12_wishes 109 = .ok (.iastore, 1) := by decide +kernel
theorem dX12_wishes_110 : decode cX12_wishes 110 = .ok (.iinc 3 1, 3) := by decide +kernel
theorem dX12_wishes_113 : decode cX12_wishes 113 = .ok (.goto (-36), 3) := by decide +kernel
theorem dX12_wishes_116 : decode cX12_wishes 116 = .ok (.iload_n 2, 1) := by decide +kernel
theorem dX12_wishes_117 : decode cX12_wishes 117 = .ok (.ireturn, 1) := by decide +kernel
set_option maxRecDepth 100000 in
def F_X12_wishes_l77 (v0 : Nat) (v1 : Int32) (v2 : Int32) (v3 : Int32) (h : Hp) : Option ((Int32 × Hp) ⊕ Hp) :=
  (if (817 : Int32) ≤ v3 then some (.inr h) else gd (decide (kd h v0 = 11)) <| ob (zR h v0 1) fun q22 => ob (zR h v0 1) fun q24 => gd (decide (kd h q24 = 13)) <| gd (ix ((4232 : Int32) + v3) (zl h q24)) <| gd (decide (kd h q22 = 13)) <| gd (ix (((147 : Int32) + ((817 : Int32) * v1)) + v3) (zl h q22)) <| some (.inl (v3 + (1 : Int32), setI h q22 (((147 : Int32) + ((817 : Int32) * v1)) + v3).toNatClampNeg (zI h q24 ((4232 : Int32) + v3).toNatClampNeg))))
set_option maxHeartbeats 4000000 in
set_option maxRecDepth 100000 in
theorem r_X12_wishes_l77 (v0 : Nat) (v1 : Int32) (v2 : Int32) (v3 : Int32) (h : Hp) {x : Cx} {o : ((Int32 × Hp) ⊕ Hp)} (e : F_X12_wishes_l77 v0 v1 v2 v3 h = some o) (kI : ∀ z, o = .inl z → V M_X12_wishes x 64 77 [(0, .ref v0), (1, .int v1), (2, .int v2), (3, .int z.1)] [] z.2 0 0) (kE116 : ∀ z : Hp, o = .inr z → V M_X12_wishes x 64 116 [(2, .int v2)] [] z 0 0) : V M_X12_wishes x 64 77 [(0, .ref v0), (1, .int v1), (2, .int v2), (3, .int v3)] [] h 0 0 := by
  unfold F_X12_wishes_l77 at e
  refine V_iload_n (pc := 77) (i := 3) dX12_wishes_77 rfl rfl ?_
  refine V_sipush (pc := 78) (v := (817 : Int32)) dX12_wishes_78 (by decide) ?_
  refine V_icmp_ge (pc := 81) (tgt := 116) dX12_wishes_81 (by decide) (fun c30 => ?_) (fun c30 => ?_)
  · rw [if_pos c30] at e
    cases e
    exact V_pick [2] rfl (kE116 h rfl)
  · rw [if_neg c30] at e
    refine V_pick [0, 1, 2, 3] rfl ?_
    refine V_aload_n (pc := 84) (i := 0) dX12_wishes_84 rfl rfl ?_
    obtain ⟨g21, e⟩ := gd_some e
    obtain ⟨q22, g23, e⟩ := ob_some e
    refine V_getR (pc := 85) (ci := 11) (k := 1) (b := q22) dX12_wishes_85 fl_X12_13 rfl (of_decide_eq_true g21) g23 ?_
    refine V_sipush (pc := 88) (v := (147 : Int32)) dX12_wishes_88 (by decide) ?_
    refine V_sipush (pc := 91) (v := (817 : Int32)) dX12_wishes_91 (by decide) ?_
    refine V_iload_n (pc := 94) (i := 1) dX12_wishes_94 rfl rfl ?_
    refine V_imul (pc := 95) dX12_wishes_95 ?_
    refine V_iadd (pc := 96) dX12_wishes_96 ?_
    refine V_iload_n (pc := 97) (i := 3) dX12_wishes_97 rfl rfl ?_
    refine V_iadd (pc := 98) dX12_wishes_98 ?_
    refine V_aload_n (pc := 99) (i := 0) dX12_wishes_99 rfl rfl ?_
    obtain ⟨q24, g25, e⟩ := ob_some e
    refine V_getR (pc := 100) (ci := 11) (k := 1) (b := q24) dX12_wishes_100 fl_X12_13 rfl (of_decide_eq_true g21) g25 ?_
    refine V_sipush (pc := 103) (v := (4232 : Int32)) dX12_wishes_103 (by decide) ?_
    refine V_iload_n (pc := 106) (i := 3) dX12_wishes_106 rfl rfl ?_
    refine V_iadd (pc := 107) dX12_wishes_107 ?_
    obtain ⟨g26, e⟩ := gd_some e
    obtain ⟨g27, e⟩ := gd_some e
    refine V_iald (pc := 108) dX12_wishes_108 (of_decide_eq_true g26) (ix_in g27) ?_
    obtain ⟨g28, e⟩ := gd_some e
    obtain ⟨g29, e⟩ := gd_some e
    refine V_iast (pc := 109) dX12_wishes_109 (of_decide_eq_true g28) (ix_in g29) ?_
    refine V_iinc (pc := 110) (i := 3) (u := v3 + (1 : Int32)) (lv' := [(3, .int (v3 + (1 : Int32))), (0, .ref v0), (1, .int v1), (2, .int v2)]) dX12_wishes_110 rfl rfl (by decide) rfl ?_
    refine V_goto (pc := 113) (tgt := 77) dX12_wishes_113 (by decide) ?_
    cases e
    exact V_pick [1, 2, 3, 0] rfl (kI (v3 + (1 : Int32), setI h q22 (((147 : Int32) + ((817 : Int32) * v1)) + v3).toNatClampNeg (zI h q24 ((4232 : Int32) + v3).toNatClampNeg)) rfl)
set_option maxRecDepth 100000 in
def F_X12_wishes_b57 (v0 : Nat) (v1 : Int32) (v2 : Int32) (t0 : Nat) (t1 : Int32) (h : Hp) : Option (Int32 × Hp) :=
  ob2 (F_X12_throwsIf t0 t1 (2 : Int32) h) fun r13 h14 => gd (decide (kd h t0 = 11)) <| (if r13 = 0 then gd (decide (kd h14 v0 = 11)) <| ob (zR h14 v0 1) fun q17 => gd (decide (kd h14 q17 = 13)) <| gd (ix (4232 : Int32) (zl h14 q17)) <| ob (iter (fun z : Int32 × Hp => F_X12_wishes_l77 v0 v1 v2 z.1 z.2) FU ((0 : Int32), setI h14 q17 ((4232 : Int32)).toNatClampNeg v2)) (fun h31 => some (v2, h31)) else some ((0 : Int32), h14))
set_option maxHeartbeats 4000000 in
set_option maxRecDepth 100000 in
theorem r_X12_wishes_b57 (v0 : Nat) (v1 : Int32) (v2 : Int32) (t0 : Nat) (t1 : Int32) (h : Hp) {x : Cx} {r : Int32} {hz : Hp} (e : F_X12_wishes_b57 v0 v1 v2 t0 t1 h = some (r, hz)) (hF : Fin9 M_X12_wishes x (some .int) (some (.int r)) hz) : V M_X12_wishes x 64 57 [(0, .ref v0), (1, .int v1), (2, .int v2)] [.int t1, .ref t0] h 0 0 := by
  unfold F_X12_wishes_b57 at e
  refine V_iconst (pc := 57) (v := (2 : Int32)) dX12_wishes_57 (by decide) ?_
  obtain ⟨r13, h14, g12, e⟩ := ob2_some e
  obtain ⟨g15, e⟩ := gd_some e
  refine V_callV (pc := 58) (bc := 0) (bs := 0) (mc := 0) (ms := 0) (st := []) (As := [.int t1, .int (2 : Int32)]) (a := t0) (h' := h14) (r := some (.int r13)) dX12_wishes_58 ml_X12_240 (ci := 11) rfl (of_decide_eq_true g15) rfl rfl (Nat.le_of_ble_eq_true rfl) (d' := 0) (by decide) (c_X12_throwsIf (l := x.2.1) t0 t1 (2 : Int32) h g12) ?_
  refine V_if_eq (pc := 61) (tgt := 66) dX12_wishes_61 (by decide) (fun c34 => ?_) (fun c34 => ?_)
  · rw [if_pos c34] at e
    refine V_pick [0, 1, 2] rfl ?_
    refine V_aload_n (pc := 66) (i := 0) dX12_wishes_66 rfl rfl ?_
    obtain ⟨g16, e⟩ := gd_some e
    obtain ⟨q17, g18, e⟩ := ob_some e
    refine V_getR (pc := 67) (ci := 11) (k := 1) (b := q17) dX12_wishes_67 fl_X12_13 rfl (of_decide_eq_true g16) g18 ?_
    refine V_sipush (pc := 70) (v := (4232 : Int32)) dX12_wishes_70 (by decide) ?_
    refine V_iload_n (pc := 73) (i := 2) dX12_wishes_73 rfl rfl ?_
    obtain ⟨g19, e⟩ := gd_some e
    obtain ⟨g20, e⟩ := gd_some e
    refine V_iast (pc := 74) dX12_wishes_74 (of_decide_eq_true g19) (ix_in g20) ?_
    refine V_iconst (pc := 75) (v := (0 : Int32)) dX12_wishes_75 (by decide) ?_
    refine V_istore_n (pc := 76) (i := 3) (lv' := [(3, .int (0 : Int32)), (0, .ref v0), (1, .int v1), (2, .int v2)]) dX12_wishes_76 rfl (by decide) rfl ?_
    refine V_pick [1, 2, 3, 0] rfl ?_
    obtain ⟨y32, g33, e⟩ := ob_some e
    refine iter_V (P := fun z : Int32 × Hp => V M_X12_wishes x 64 77 [(0, .ref v0), (1, .int v1), (2, .int v2), (3, .int z.1)] [] z.2 0 0) (E := fun z : Hp => V M_X12_wishes x 64 116 [(2, .int v2)] [] z 0 0) (fun z o e9 k1 k2 => r_X12_wishes_l77 v0 v1 v2 z.1 z.2 e9 (fun z hz9 => k1 z hz9) (fun z hz9 => k2 _ hz9)) _ _ _ g33 ?_
    clear g33
    obtain ⟨h31, rfl⟩ : ∃ q, q = y32 := ⟨_, rfl⟩
    replace e : (some (v2, h31)) = some (r, hz) := e
    show V M_X12_wishes x 64 116 [(2, .int v2)] [] h31 0 0
    refine V_iload_n (pc := 116) (i := 2) dX12_wishes_116 rfl rfl ?_
    cases e
    exact V_iret (pc := 117) dX12_wishes_117 hF
  · rw [if_neg c34] at e
    refine V_pick [] rfl ?_
    refine V_iconst (pc := 64) (v := (0 : Int32)) dX12_wishes_64 (by decide) ?_
    cases e
    exact V_iret (pc := 65) dX12_wishes_65 hF
set_option maxRecDepth 100000 in
def F_X12_wishes_b44 (v0 : Nat) (v1 : Int32) (v2 : Int32) (t0 : Nat) (t1 : Int32) (h : Hp) : Option (Int32 × Hp) :=
  gd (decide (kd h t0 = 11)) <| (if 0 ≤ v2 then F_X12_wishes_b57 v0 v1 v2 v0 (0 : Int32) (setI h t0 11 t1) else F_X12_wishes_b57 v0 v1 v2 v0 (1 : Int32) (setI h t0 11 t1))
set_option maxHeartbeats 4000000 in
set_option maxRecDepth 100000 in
theorem r_X12_wishes_b44 (v0 : Nat) (v1 : Int32) (v2 : Int32) (t0 : Nat) (t1 : Int32) (h : Hp) {x : Cx} {r : Int32} {hz : Hp} (e : F_X12_wishes_b44 v0 v1 v2 t0 t1 h = some (r, hz)) (hF : Fin9 M_X12_wishes x (some .int) (some (.int r)) hz) : V M_X12_wishes x 64 44 [(0, .ref v0), (1, .int v1), (2, .int v2)] [.int t1, .ref t0] h 0 0 := by
  unfold F_X12_wishes_b44 at e
  obtain ⟨g11, e⟩ := gd_some e
  refine V_putI (pc := 44) (ci := 11) (k := 11) dX12_wishes_44 fp_X12_27 rfl (of_decide_eq_true g11) ?_
  refine V_aload_n (pc := 47) (i := 0) dX12_wishes_47 rfl rfl ?_
  refine V_iload_n (pc := 48) (i := 2) dX12_wishes_48 rfl rfl ?_
  refine V_if_ge (pc := 49) (tgt := 56) dX12_wishes_49 (by decide) (fun c35 => ?_) (fun c35 => ?_)
  · rw [if_pos c35] at e
    refine V_pick [0, 1, 2] rfl ?_
    refine V_iconst (pc := 56) (v := (0 : Int32)) dX12_wishes_56 (by decide) ?_
    exact V_pick [0, 1, 2] rfl (r_X12_wishes_b57 v0 v1 v2 v0 (0 : Int32) (setI h t0 11 t1) e hF)
  · rw [if_neg c35] at e
    refine V_pick [0, 1, 2] rfl ?_
    refine V_iconst (pc := 52) (v := (1 : Int32)) dX12_wishes_52 (by decide) ?_
    refine V_goto (pc := 53) (tgt := 57) dX12_wishes_53 (by decide) ?_
    exact V_pick [0, 1, 2] rfl (r_X12_wishes_b57 v0 v1 v2 v0 (1 : Int32) (setI h t0 11 t1) e hF)
set_option maxRecDepth 100000 in
def F_X12_wishes_b0 (v0 : Nat) (v1 : Int32) (h : Hp) : Option (Int32 × Hp) :=
  gd (decide (kd h v0 = 11)) <| ob (F_X12_noGuest v0 v1 (setI h v0 0 (0 : Int32))) fun r3 => ob2 (F_X12_throwsIf v0 r3 (1 : Int32) (setI h v0 0 (0 : Int32))) fun r5 h6 => (if r5 = 0 then ob2 (F_X12_readAll v0 (1 : Int32) h6) fun r8 h9 => gd (decide (kd h6 v0 = 11)) <| (if 0 ≤ r8 then F_X12_wishes_b44 v0 v1 r8 v0 (-1 : Int32) h9 else gd (decide (kd h9 v0 = 11)) <| F_X12_wishes_b44 v0 v1 r8 v0 (zI h9 v0 9) h9) else gd (decide (kd h6 v0 = 11)) <| some ((0 : Int32), setI h6 v0 6 (0 : Int32)))
set_option maxHeartbeats 4000000 in
set_option maxRecDepth 100000 in
theorem r_X12_wishes_b0 (v0 : Nat) (v1 : Int32) (h : Hp) {x : Cx} {r : Int32} {hz : Hp} (e : F_X12_wishes_b0 v0 v1 h = some (r, hz)) (hF : Fin9 M_X12_wishes x (some .int) (some (.int r)) hz) : V M_X12_wishes x 64 0 [(0, .ref v0), (1, .int v1)] [] h 0 0 := by
  unfold F_X12_wishes_b0 at e
  refine V_aload_n (pc := 0) (i := 0) dX12_wishes_0 rfl rfl ?_
  refine V_iconst (pc := 1) (v := (0 : Int32)) dX12_wishes_1 (by decide) ?_
  obtain ⟨g1, e⟩ := gd_some e
  refine V_putI (pc := 2) (ci := 11) (k := 0) dX12_wishes_2 fp_X12_3 rfl (of_decide_eq_true g1) ?_
  refine V_aload_n (pc := 5) (i := 0) dX12_wishes_5 rfl rfl ?_
  refine V_aload_n (pc := 6) (i := 0) dX12_wishes_6 rfl rfl ?_
  refine V_iload_n (pc := 7) (i := 1) dX12_wishes_7 rfl rfl ?_
  obtain ⟨r3, g2, e⟩ := ob_some e
  refine V_callV (pc := 8) (bc := 0) (bs := 0) (mc := 0) (ms := 0) (st := [.ref v0]) (As := [.int v1]) (a := v0) (h' := (setI h v0 0 (0 : Int32))) (r := some (.int r3)) dX12_wishes_8 ml_X12_244 (ci := 11) rfl (kd_sI (of_decide_eq_true g1)) rfl rfl (Nat.le_of_ble_eq_true rfl) (d' := 1) (by decide) (c_X12_noGuest (l := x.2.1) v0 v1 (setI h v0 0 (0 : Int32)) g2) ?_
  refine V_iconst (pc := 11) (v := (1 : Int32)) dX12_wishes_11 (by decide) ?_
  obtain ⟨r5, h6, g4, e⟩ := ob2_some e
  refine V_callV (pc := 12) (bc := 0) (bs := 0) (mc := 0) (ms := 0) (st := []) (As := [.int r3, .int (1 : Int32)]) (a := v0) (h' := h6) (r := some (.int r5)) dX12_wishes_12 ml_X12_240 (ci := 11) rfl (kd_sI (of_decide_eq_true g1)) rfl rfl (Nat.le_of_ble_eq_true rfl) (d' := 0) (by decide) (c_X12_throwsIf (l := x.2.1) v0 r3 (1 : Int32) (setI h v0 0 (0 : Int32)) g4) ?_
  refine V_if_eq (pc := 15) (tgt := 25) dX12_wishes_15 (by decide) (fun c39 => ?_) (fun c39 => ?_)
  · rw [if_pos c39] at e
    refine V_pick [0, 1] rfl ?_
    refine V_aload_n (pc := 25) (i := 0) dX12_wishes_25 rfl rfl ?_
    refine V_iconst (pc := 26) (v := (1 : Int32)) dX12_wishes_26 (by decide) ?_
    obtain ⟨r8, h9, g7, e⟩ := ob2_some e
    obtain ⟨g10, e⟩ := gd_some e
    refine V_callV (pc := 27) (bc := 0) (bs := 0) (mc := 0) (ms := 0) (st := []) (As := [.int (1 : Int32)]) (a := v0) (h' := h9) (r := some (.int r8)) dX12_wishes_27 ml_X12_237 (ci := 11) rfl (of_decide_eq_true g10) rfl rfl (Nat.le_of_ble_eq_true rfl) (d' := 63) (by decide) (c_X12_readAll (l := x.2.1) v0 (1 : Int32) h6 g7) ?_
    refine V_istore_n (pc := 30) (i := 2) (lv' := [(2, .int r8), (0, .ref v0), (1, .int v1)]) dX12_wishes_30 rfl (by decide) rfl ?_
    refine V_aload_n (pc := 31) (i := 0) dX12_wishes_31 rfl rfl ?_
    refine V_iload_n (pc := 32) (i := 2) dX12_wishes_32 rfl rfl ?_
    refine V_if_ge (pc := 33) (tgt := 43) dX12_wishes_33 (by decide) (fun c37 => ?_) (fun c37 => ?_)
    · rw [if_pos c37] at e
      refine V_pick [1, 2, 0] rfl ?_
      refine V_iconst (pc := 43) (v := (-1 : Int32)) dX12_wishes_43 (by decide) ?_
      exact V_pick [0, 1, 2] rfl (r_X12_wishes_b44 v0 v1 r8 v0 (-1 : Int32) h9 e hF)
    · rw [if_neg c37] at e
      refine V_pick [1, 2, 0] rfl ?_
      refine V_aload_n (pc := 36) (i := 0) dX12_wishes_36 rfl rfl ?_
      obtain ⟨g36, e⟩ := gd_some e
      refine V_getI (pc := 37) (ci := 11) (k := 9) dX12_wishes_37 fl_X12_93 rfl (of_decide_eq_true g36) ?_
      refine V_goto (pc := 40) (tgt := 44) dX12_wishes_40 (by decide) ?_
      exact V_pick [0, 1, 2] rfl (r_X12_wishes_b44 v0 v1 r8 v0 (zI h9 v0 9) h9 e hF)
  · rw [if_neg c39] at e
    refine V_pick [0] rfl ?_
    refine V_aload_n (pc := 18) (i := 0) dX12_wishes_18 rfl rfl ?_
    refine V_iconst (pc := 19) (v := (0 : Int32)) dX12_wishes_19 (by decide) ?_
    obtain ⟨g38, e⟩ := gd_some e
    refine V_putI (pc := 20) (ci := 11) (k := 6) dX12_wishes_20 fp_X12_80 rfl (of_decide_eq_true g38) ?_
    refine V_iconst (pc := 23) (v := (0 : Int32)) dX12_wishes_23 (by decide) ?_
    cases e
    exact V_iret (pc := 24) dX12_wishes_24 hF
def F_X12_wishes (v0 : Nat) (v1 : Int32) (h : Hp) : Option (Int32 × Hp) := F_X12_wishes_b0 v0 v1 h
theorem c_X12_wishes {l : Launch} (v0 : Nat) (v1 : Int32) (h : Hp) {r : Int32} {hz : Hp} (e : F_X12_wishes v0 v1 h = some (r, hz)) : Ct l yX12_wishes M_X12_wishes (some .int) 64 [.ref v0, .int v1] h 0 0 (some (.int r)) hz :=
  Ct_of rfl rfl (fun q => by cases q) (Nat.le_of_ble_eq_true rfl) (fun x _ hF => V_pick [0, 1] rfl (r_X12_wishes_b0 v0 v1 h e hF))
theorem dX12_book_0 : decode cX12_book 0 = .ok (.aload_n 0, 1) := by decide +kernel
theorem dX12_book_1 : decode cX12_book 1 = .ok (.iconst 0, 1) := by decide +kernel
theorem dX12_book_2 : decode cX12_book 2 = .ok (.putfield 3, 3) := by decide +kernel
theorem dX12_book_5 : decode cX12_book 5 = .ok (.aload_n 0, 1) := by decide +kernel
theorem dX12_book_6 : decode cX12_book 6 = .ok (.iconst 2, 1) := by decide +kernel
theorem dX12_book_7 : decode cX12_book 7 = .ok (.invokevirtual 237, 3) := by decide +kernel
theorem dX12_book_10 : decode cX12_book 10 = .ok (.istore_n 1, 1) := by decide +kernel
theorem dX12_book_11 : decode cX12_book 11 = .ok (.aload_n 0, 1) := by decide +kernel
theorem dX12_book_12 : decode cX12_book 12 = .ok (.iload_n 1, 1) := by decide +kernel
theorem dX12_book_13 : decode cX12_book 13 = .ok (.ifCond .ge 10, 3) := by decide +kernel
theorem dX12_book_16 : decode cX12_book 16 = .ok (.aload_n 0, 1) := by decide +kernel
theorem dX12_book_17 : decode cX12_book 17 = .ok (.getfield 93, 3) := by decide +kernel
theorem dX12_book_20 : decode cX12_book 20 = .ok (.goto 4, 3) := by decide +kernel
theorem dX12_book_23 : decode cX12_book 23 = .ok (.iconst (-1), 1) := by decide +kernel
theorem dX12_book_24 : decode cX12_book 24 = .ok (.putfield 27, 3) := by decide +kernel
theorem dX12_book_27 : decode cX12_book 27 = .ok (.aload_n 0, 1) := by decide +kernel
theorem dX12_book_28 : decode cX12_book 28 = .ok (.iload_n 1, 1) := by decide +kernel
theorem dX12_book_29 : decode cX12_book 29 = .ok (.ifCond .ge 7, 3) := by decide +kernel
theorem dX12_book_32 : decode cX12_book 32 = .ok (.iconst 1, 1) := by decide +kernel
theorem dX12_book_33 : decode cX12_book 33 = .ok (.goto 4, 3) := by decide +kernel
theorem dX12_book_36 : decode cX12_book 36 = .ok (.iconst 0, 1) := by decide +kernel
theorem dX12_book_37 : decode cX12_book 37 = .ok (.iconst 1, 1) := by decide +kernel
theorem dX12_book_38 : decode cX12_book 38 = .ok (.invokevirtual 240, 3) := by decide +kernel
theorem dX12_book_41 : decode cX12_book 41 = .ok (.ifCond .eq 5, 3) := by decide +kernel
theorem dX12_book_44 : decode cX12_book 44 = .ok (.iconst 0, 1) := by decide +kernel
theorem dX12_book_45 : decode cX12_book 45 = .ok (.ireturn, 1) := by decide +kernel
theorem dX12_book_46 : decode cX12_book 46 = .ok (.aload_n 0, 1) := by decide +kernel
theorem dX12_book_47 : decode cX12_book 47 = .ok (.getfield 13, 3) := by decide +kernel
theorem dX12_book_50 : decode cX12_book 50 = .ok (.iconst 4, 1) := by decide +kernel
theorem dX12_book_51 : decode cX12_book 51 = .ok (.iload_n 1, 1) := by decide +kernel
theorem dX12_book_52 : decode cX12_book 52 = .ok (.iastore, 1) := by decide +kernel
theorem dX12_book_53 : decode cX12_book 53 = .ok (.iconst 0, 1) := by decide +kernel
theorem dX12_book_54 : decode cX12_book 54 = .ok (.istore_n 2, 1) := by decide +kernel
theorem dX12_book_55 : decode cX12_book 55 = .ok (.iload_n 2, 1) := by decide +kernel
theorem dX12_book_56 : decode cX12_book 56 = .ok (.iconst 3, 1) := by decide +kernel
theorem dX12_book_57 : decode cX12_book 57 = .ok (.iload_n 1, 1) := by decide +kernel
theorem dX12_book_58 : decode cX12_book 58 = .ok (.imul, 1) := by decide +kernel
theorem dX12_book_59 : decode cX12_book 59 = .ok (.if_icmp .ge 24, 3) := by decide +kernel
theorem dX12_book_62 : decode cX12_book 62 = .ok (.aload_n 0, 1) := by decide +kernel
theorem dX12_book_63 : decode cX12_book 63 = .ok (.getfield 13, 3) := by decide +kernel
theorem dX12_book_66 : decode cX12_book 66 = .ok (.bipush 71, 2) := by decide +kernel
theorem dX12_book_68 : decode cX12_book 68 = .ok (.iload_n 2, 1) := by decide +kernel
theorem dX12_book_69 : decode cX12_book 69 = .ok (.iadd, 1) := by decide +kernel
theorem dX12_book_70 : decode cX12_book 70 = .ok (.aload_n 0, 1) := by decide +kernel
theorem dX12_book_71 : decode cX12_book 71 = .ok (.getfield 33, 3) := by decide +kernel
theorem dX12_book_74 : decode cX12_book 74 = .ok (.iload_n 2, 1) := by decide +kernel
theorem dX12_book_75 : decode cX12_book 75 = .ok (.iaload, 1) := by decide +kernel
theorem dX12_book_76 : decode cX12_book 76 = .ok (.iastore, 1) := by decide +kernel
theorem dX12_book_77 : decode cX12_book 77 = .ok (.iinc 2 1, 3) := by decide +kernel
theorem dX12_book_80 : decode cX12_book 80 = .ok (.goto (-25), 3) := by decide +kernel
theorem dX12_book_83 : decode cX12_book 83 = .ok (.iload_n 1, 1) := by decide +kernel
theorem dX12_book_84 : decode cX12_book 84 = .ok (.ireturn, 1) := by decide +kernel
set_option maxRecDepth 100000 in
def F_X12_book_l55 (v0 : Nat) (v1 : Int32) (v2 : Int32) (h : Hp) : Option ((Int32 × Hp) ⊕ Hp) :=
  (if ((3 : Int32) * v1) ≤ v2 then some (.inr h) else gd (decide (kd h v0 = 11)) <| ob (zR h v0 1) fun q16 => ob (zR h v0 14) fun q18 => gd (decide (kd h q18 = 13)) <| gd (ix v2 (zl h q18)) <| gd (decide (kd h q16 = 13)) <| gd (ix ((71 : Int32) + v2) (zl h q16)) <| some (.inl (v2 + (1 : Int32), setI h q16 ((71 : Int32) + v2).toNatClampNeg (zI h q18 (v2).toNatClampNeg))))
set_option maxHeartbeats 4000000 in
set_option maxRecDepth 100000 in
theorem r_X12_book_l55 (v0 : Nat) (v1 : Int32) (v2 : Int32) (h : Hp) {x : Cx} {o : ((Int32 × Hp) ⊕ Hp)} (e : F_X12_book_l55 v0 v1 v2 h = some o) (kI : ∀ z, o = .inl z → V M_X12_book x 64 55 [(0, .ref v0), (1, .int v1), (2, .int z.1)] [] z.2 0 0) (kE83 : ∀ z : Hp, o = .inr z → V M_X12_book x 64 83 [(1, .int v1)] [] z 0 0) : V M_X12_book x 64 55 [(0, .ref v0), (1, .int v1), (2, .int v2)] [] h 0 0 := by
  unfold F_X12_book_l55 at e
  refine V_iload_n (pc := 55) (i := 2) dX12_book_55 rfl rfl ?_
  refine V_iconst (pc := 56) (v := (3 : Int32)) dX12_book_56 (by decide) ?_
  refine V_iload_n (pc := 57) (i := 1) dX12_book_57 rfl rfl ?_
  refine V_imul (pc := 58) dX12_book_58 ?_
  refine V_icmp_ge (pc := 59) (tgt := 83) dX12_book_59 (by decide) (fun c24 => ?_) (fun c24 => ?_)
  · rw [if_pos c24] at e
    cases e
    exact V_pick [1] rfl (kE83 h rfl)
  · rw [if_neg c24] at e
    refine V_pick [0, 1, 2] rfl ?_
    refine V_aload_n (pc := 62) (i := 0) dX12_book_62 rfl rfl ?_
    obtain ⟨g15, e⟩ := gd_some e
    obtain ⟨q16, g17, e⟩ := ob_some e
    refine V_getR (pc := 63) (ci := 11) (k := 1) (b := q16) dX12_book_63 fl_X12_13 rfl (of_decide_eq_true g15) g17 ?_
    refine V_bipush (pc := 66) (v := (71 : Int32)) dX12_book_66 (by decide) ?_
    refine V_iload_n (pc := 68) (i := 2) dX12_book_68 rfl rfl ?_
    refine V_iadd (pc := 69) dX12_book_69 ?_
    refine V_aload_n (pc := 70) (i := 0) dX12_book_70 rfl rfl ?_
    obtain ⟨q18, g19, e⟩ := ob_some e
    refine V_getR (pc := 71) (ci := 11) (k := 14) (b := q18) dX12_book_71 fl_X12_33 rfl (of_decide_eq_true g15) g19 ?_
    refine V_iload_n (pc := 74) (i := 2) dX12_book_74 rfl rfl ?_
    obtain ⟨g20, e⟩ := gd_some e
    obtain ⟨g21, e⟩ := gd_some e
    refine V_iald (pc := 75) dX12_book_75 (of_decide_eq_true g20) (ix_in g21) ?_
    obtain ⟨g22, e⟩ := gd_some e
    obtain ⟨g23, e⟩ := gd_some e
    refine V_iast (pc := 76) dX12_book_76 (of_decide_eq_true g22) (ix_in g23) ?_
    refine V_iinc (pc := 77) (i := 2) (u := v2 + (1 : Int32)) (lv' := [(2, .int (v2 + (1 : Int32))), (0, .ref v0), (1, .int v1)]) dX12_book_77 rfl rfl (by decide) rfl ?_
    refine V_goto (pc := 80) (tgt := 55) dX12_book_80 (by decide) ?_
    cases e
    exact V_pick [1, 2, 0] rfl (kI (v2 + (1 : Int32), setI h q16 ((71 : Int32) + v2).toNatClampNeg (zI h q18 (v2).toNatClampNeg)) rfl)
set_option maxRecDepth 100000 in
def F_X12_book_b37 (v0 : Nat) (v1 : Int32) (t0 : Nat) (t1 : Int32) (h : Hp) : Option (Int32 × Hp) :=
  ob2 (F_X12_throwsIf t0 t1 (1 : Int32) h) fun r7 h8 => gd (decide (kd h t0 = 11)) <| (if r7 = 0 then gd (decide (kd h8 v0 = 11)) <| ob (zR h8 v0 1) fun q11 => gd (decide (kd h8 q11 = 13)) <| gd (ix (4 : Int32) (zl h8 q11)) <| ob (iter (fun z : Int32 × Hp => F_X12_book_l55 v0 v1 z.1 z.2) FU ((0 : Int32), setI h8 q11 ((4 : Int32)).toNatClampNeg v1)) (fun h25 => some (v1, h25)) else some ((0 : Int32), h8))
set_option maxHeartbeats 4000000 in
set_option maxRecDepth 100000 in
theorem r_X12_book_b37 (v0 : Nat) (v1 : Int32) (t0 : Nat) (t1 : Int32) (h : Hp) {x : Cx} {r : Int32} {hz : Hp} (e : F_X12_book_b37 v0 v1 t0 t1 h = some (r, hz)) (hF : Fin9 M_X12_book x (some .int) (some (.int r)) hz) : V M_X12_book x 64 37 [(0, .ref v0), (1, .int v1)] [.int t1, .ref t0] h 0 0 := by
  unfold F_X12_book_b37 at e
  refine V_iconst (pc := 37) (v := (1 : Int32)) dX12_book_37 (by decide) ?_
  obtain ⟨r7, h8, g6, e⟩ := ob2_some e
  obtain ⟨g9, e⟩ := gd_some e
  refine V_callV (pc := 38) (bc := 0) (bs := 0) (mc := 0) (ms := 0) (st := []) (As := [.int t1, .int (1 : Int32)]) (a := t0) (h' := h8) (r := some (.int r7)) dX12_book_38 ml_X12_240 (ci := 11) rfl (of_decide_eq_true g9) rfl rfl (Nat.le_of_ble_eq_true rfl) (d' := 0) (by decide) (c_X12_throwsIf (l := x.2.1) t0 t1 (1 : Int32) h g6) ?_
  refine V_if_eq (pc := 41) (tgt := 46) dX12_book_41 (by decide) (fun c28 => ?_) (fun c28 => ?_)
  · rw [if_pos c28] at e
    refine V_pick [0, 1] rfl ?_
    refine V_aload_n (pc := 46) (i := 0) dX12_book_46 rfl rfl ?_
    obtain ⟨g10, e⟩ := gd_some e
    obtain ⟨q11, g12, e⟩ := ob_some e
    refine V_getR (pc := 47) (ci := 11) (k := 1) (b := q11) dX12_book_47 fl_X12_13 rfl (of_decide_eq_true g10) g12 ?_
    refine V_iconst (pc := 50) (v := (4 : Int32)) dX12_book_50 (by decide) ?_
    refine V_iload_n (pc := 51) (i := 1) dX12_book_51 rfl rfl ?_
    obtain ⟨g13, e⟩ := gd_some e
    obtain ⟨g14, e⟩ := gd_some e
    refine V_iast (pc := 52) dX12_book_52 (of_decide_eq_true g13) (ix_in g14) ?_
    refine V_iconst (pc := 53) (v := (0 : Int32)) dX12_book_53 (by decide) ?_
    refine V_istore_n (pc := 54) (i := 2) (lv' := [(2, .int (0 : Int32)), (0, .ref v0), (1, .int v1)]) dX12_book_54 rfl (by decide) rfl ?_
    refine V_pick [1, 2, 0] rfl ?_
    obtain ⟨y26, g27, e⟩ := ob_some e
    refine iter_V (P := fun z : Int32 × Hp => V M_X12_book x 64 55 [(0, .ref v0), (1, .int v1), (2, .int z.1)] [] z.2 0 0) (E := fun z : Hp => V M_X12_book x 64 83 [(1, .int v1)] [] z 0 0) (fun z o e9 k1 k2 => r_X12_book_l55 v0 v1 z.1 z.2 e9 (fun z hz9 => k1 z hz9) (fun z hz9 => k2 _ hz9)) _ _ _ g27 ?_
    clear g27
    obtain ⟨h25, rfl⟩ : ∃ q, q = y26 := ⟨_, rfl⟩
    replace e : (some (v1, h25)) = some (r, hz) := e
    show V M_X12_book x 64 83 [(1, .int v1)] [] h25 0 0
    refine V_iload_n (pc := 83) (i := 1) dX12_book_83 rfl rfl ?_
    cases e
    exact V_iret (pc := 84) dX12_book_84 hF
  · rw [if_neg c28] at e
    refine V_pick [] rfl ?_
    refine V_iconst (pc := 44) (v := (0 : Int32)) dX12_book_44 (by decide) ?_
    cases e
    exact V_iret (pc := 45) dX12_book_45 hF
set_option maxRecDepth 100000 in
def F_X12_book_b24 (v0 : Nat) (v1 : Int32) (t0 : Nat) (t1 : Int32) (h : Hp) : Option (Int32 × Hp) :=
  gd (decide (kd h t0 = 11)) <| (if 0 ≤ v1 then F_X12_book_b37 v0 v1 v0 (0 : Int32) (setI h t0 11 t1) else F_X12_book_b37 v0 v1 v0 (1 : Int32) (setI h t0 11 t1))
set_option maxHeartbeats 4000000 in
set_option maxRecDepth 100000 in
theorem r_X12_book_b24 (v0 : Nat) (v1 : Int32) (t0 : Nat) (t1 : Int32) (h : Hp) {x : Cx} {r : Int32} {hz : Hp} (e : F_X12_book_b24 v0 v1 t0 t1 h = some (r, hz)) (hF : Fin9 M_X12_book x (some .int) (some (.int r)) hz) : V M_X12_book x 64 24 [(0, .ref v0), (1, .int v1)] [.int t1, .ref t0] h 0 0 := by
  unfold F_X12_book_b24 at e
  obtain ⟨g5, e⟩ := gd_some e
  refine V_putI (pc := 24) (ci := 11) (k := 11) dX12_book_24 fp_X12_27 rfl (of_decide_eq_true g5) ?_
  refine V_aload_n (pc := 27) (i := 0) dX12_book_27 rfl rfl ?_
  refine V_iload_n (pc := 28) (i := 1) dX12_book_28 rfl rfl ?_
  refine V_if_ge (pc := 29) (tgt := 36) dX12_book_29 (by decide) (fun c29 => ?_) (fun c29 => ?_)
  · rw [if_pos c29] at e
    refine V_pick [0, 1] rfl ?_
    refine V_iconst (pc := 36) (v := (0 : Int32)) dX12_book_36 (by decide) ?_
    exact V_pick [0, 1] rfl (r_X12_book_b37 v0 v1 v0 (0 : Int32) (setI h t0 11 t1) e hF)
  · rw [if_neg c29] at e
    refine V_pick [0, 1] rfl ?_
    refine V_iconst (pc := 32) (v := (1 : Int32)) dX12_book_32 (by decide) ?_
    refine V_goto (pc := 33) (tgt := 37) dX12_book_33 (by decide) ?_
    exact V_pick [0, 1] rfl (r_X12_book_b37 v0 v1 v0 (1 : Int32) (setI h t0 11 t1) e hF)
set_option maxRecDepth 100000 in
def F_X12_book_b0 (v0 : Nat) (h : Hp) : Option (Int32 × Hp) :=
  gd (decide (kd h v0 = 11)) <| ob2 (F_X12_readAll v0 (2 : Int32) (setI h v0 0 (0 : Int32))) fun r3 h4 => (if 0 ≤ r3 then F_X12_book_b24 v0 r3 v0 (-1 : Int32) h4 else gd (decide (kd h4 v0 = 11)) <| F_X12_book_b24 v0 r3 v0 (zI h4 v0 9) h4)
set_option maxHeartbeats 4000000 in
set_option maxRecDepth 100000 in
theorem r_X12_book_b0 (v0 : Nat) (h : Hp) {x : Cx} {r : Int32} {hz : Hp} (e : F_X12_book_b0 v0 h = some (r, hz)) (hF : Fin9 M_X12_book x (some .int) (some (.int r)) hz) : V M_X12_book x 64 0 [(0, .ref v0)] [] h 0 0 := by
  unfold F_X12_book_b0 at e
  refine V_aload_n (pc := 0) (i := 0) dX12_book_0 rfl rfl ?_
  refine V_iconst (pc := 1) (v := (0 : Int32)) dX12_book_1 (by decide) ?_
  obtain ⟨g1, e⟩ := gd_some e
  refine V_putI (pc := 2) (ci := 11) (k := 0) dX12_book_2 fp_X12_3 rfl (of_decide_eq_true g1) ?_
  refine V_aload_n (pc := 5) (i := 0) dX12_book_5 rfl rfl ?_
  refine V_iconst (pc := 6) (v := (2 : Int32)) dX12_book_6 (by decide) ?_
  obtain ⟨r3, h4, g2, e⟩ := ob2_some e
  refine V_callV (pc := 7) (bc := 0) (bs := 0) (mc := 0) (ms := 0) (st := []) (As := [.int (2 : Int32)]) (a := v0) (h' := h4) (r := some (.int r3)) dX12_book_7 ml_X12_237 (ci := 11) rfl (kd_sI (of_decide_eq_true g1)) rfl rfl (Nat.le_of_ble_eq_true rfl) (d' := 63) (by decide) (c_X12_readAll (l := x.2.1) v0 (2 : Int32) (setI h v0 0 (0 : Int32)) g2) ?_
  refine V_istore_n (pc := 10) (i := 1) (lv' := [(1, .int r3), (0, .ref v0)]) dX12_book_10 rfl (by decide) rfl ?_
  refine V_aload_n (pc := 11) (i := 0) dX12_book_11 rfl rfl ?_
  refine V_iload_n (pc := 12) (i := 1) dX12_book_12 rfl rfl ?_
  refine V_if_ge (pc := 13) (tgt := 23) dX12_book_13 (by decide) (fun c31 => ?_) (fun c31 => ?_)
  · rw [if_pos c31] at e
    refine V_pick [1, 0] rfl ?_
    refine V_iconst (pc := 23) (v := (-1 : Int32)) dX12_book_23 (by decide) ?_
    exact V_pick [0, 1] rfl (r_X12_book_b24 v0 r3 v0 (-1 : Int32) h4 e hF)
  · rw [if_neg c31] at e
    refine V_pick [1, 0] rfl ?_
    refine V_aload_n (pc := 16) (i := 0) dX12_book_16 rfl rfl ?_
    obtain ⟨g30, e⟩ := gd_some e
    refine V_getI (pc := 17) (ci := 11) (k := 9) dX12_book_17 fl_X12_93 rfl (of_decide_eq_true g30) ?_
    refine V_goto (pc := 20) (tgt := 24) dX12_book_20 (by decide) ?_
    exact V_pick [0, 1] rfl (r_X12_book_b24 v0 r3 v0 (zI h4 v0 9) h4 e hF)
def F_X12_book (v0 : Nat) (h : Hp) : Option (Int32 × Hp) := F_X12_book_b0 v0 h
theorem c_X12_book {l : Launch} (v0 : Nat) (h : Hp) {r : Int32} {hz : Hp} (e : F_X12_book v0 h = some (r, hz)) : Ct l yX12_book M_X12_book (some .int) 64 [.ref v0] h 0 0 (some (.int r)) hz :=
  Ct_of rfl rfl (fun q => by cases q) (Nat.le_of_ble_eq_true rfl) (fun x _ hF => V_pick [0] rfl (r_X12_book_b0 v0 h e hF))
theorem dX12_sits_0 : decode cX12_sits 0 = .ok (.iconst 0, 1) := by decide +kernel
theorem dX12_sits_1 : decode cX12_sits 1 = .ok (.istore_n 1, 1) := by decide +kernel
theorem dX12_sits_2 : decode cX12_sits 2 = .ok (.iload_n 1, 1) := by decide +kernel
theorem dX12_sits_3 : decode cX12_sits 3 = .ok (.aload_n 0, 1) := by decide +kernel
theorem dX12_sits_4 : decode cX12_sits 4 = .ok (.invokevirtual 68, 3) := by decide +kernel
theorem dX12_sits_7 : decode cX12_sits 7 = .ok (.if_icmp .ge 20, 3) := by decide +kernel
theorem dX12_sits_10 : decode cX12_sits 10 = .ok (.aload_n 0, 1) := by decide +kernel
theorem dX12_sits_11 : decode cX12_sits 11 = .ok (.getfield 36, 3) := by decide +kernel
theorem dX12_sits_14 : decode cX12_sits 14 = .ok (.iload_n 1, 1) := by decide +kernel
theorem dX12_sits_15 : decode cX12_sits 15 = .ok (.aload_n 0, 1) := by decide +kernel
theorem dX12_sits_16 : decode cX12_sits 16 = .ok (.iload_n 1, 1) := by decide +kernel
theorem dX12_sits_17 : decode cX12_sits 17 = .ok (.invokevirtual 247, 3) := by decide +kernel
theorem dX12_sits_20 : decode cX12_sits 20 = .ok (.iastore, 1) := by decide +kernel
theorem dX12_sits_21 : decode cX12_sits 21 = .ok (.iinc 1 1, 3) := by decide +kernel
theorem dX12_sits_24 : decode cX12_sits 24 = .ok (.goto (-22), 3) := by decide +kernel
theorem dX12_sits_27 : decode cX12_sits 27 = .ok (.return_, 1) := by decide +kernel
set_option maxRecDepth 100000 in
def F_X12_sits_l2 (v0 : Nat) (v1 : Int32) (h : Hp) : Option ((Int32 × Hp) ⊕ Hp) :=
  ob (F_X12_guests v0 h) fun r2 => gd (decide (kd h v0 = 11)) <| (if r2 ≤ v1 then some (.inr h) else ob (zR h v0 15) fun q4 => ob (F_X12_roomOf v0 v1 h) fun r7 => gd (decide (kd h q4 = 13)) <| gd (ix v1 (zl h q4)) <| some (.inl (v1 + (1 : Int32), setI h q4 (v1).toNatClampNeg r7)))
set_option maxHeartbeats 4000000 in
set_option maxRecDepth 100000 in
theorem r_X12_sits_l2 (v0 : Nat) (v1 : Int32) (h : Hp) {x : Cx} {o : ((Int32 × Hp) ⊕ Hp)} (e : F_X12_sits_l2 v0 v1 h = some o) (kI : ∀ z, o = .inl z → V M_X12_sits x 1 2 [(0, .ref v0), (1, .int z.1)] [] z.2 0 0) (kE27 : ∀ z : Hp, o = .inr z → V M_X12_sits x 1 27 [] [] z 0 0) : V M_X12_sits x 1 2 [(0, .ref v0), (1, .int v1)] [] h 0 0 := by
  unfold F_X12_sits_l2 at e
  refine V_iload_n (pc := 2) (i := 1) dX12_sits_2 rfl rfl ?_
  refine V_aload_n (pc := 3) (i := 0) dX12_sits_3 rfl rfl ?_
  obtain ⟨r2, g1, e⟩ := ob_some e
  obtain ⟨g3, e⟩ := gd_some e
  refine V_callV (pc := 4) (bc := 0) (bs := 0) (mc := 0) (ms := 0) (st := [.int v1]) (As := []) (a := v0) (h' := h) (r := some (.int r2)) dX12_sits_4 ml_X12_68 (ci := 11) rfl (of_decide_eq_true g3) rfl rfl (Nat.le_of_ble_eq_true rfl) (d' := 0) (by decide) (c_X12_guests (l := x.2.1) v0 h g1) ?_
  refine V_icmp_ge (pc := 7) (tgt := 27) dX12_sits_7 (by decide) (fun c10 => ?_) (fun c10 => ?_)
  · rw [if_pos c10] at e
    cases e
    exact V_pick [] rfl (kE27 h rfl)
  · rw [if_neg c10] at e
    refine V_pick [0, 1] rfl ?_
    refine V_aload_n (pc := 10) (i := 0) dX12_sits_10 rfl rfl ?_
    obtain ⟨q4, g5, e⟩ := ob_some e
    refine V_getR (pc := 11) (ci := 11) (k := 15) (b := q4) dX12_sits_11 fl_X12_36 rfl (of_decide_eq_true g3) g5 ?_
    refine V_iload_n (pc := 14) (i := 1) dX12_sits_14 rfl rfl ?_
    refine V_aload_n (pc := 15) (i := 0) dX12_sits_15 rfl rfl ?_
    refine V_iload_n (pc := 16) (i := 1) dX12_sits_16 rfl rfl ?_
    obtain ⟨r7, g6, e⟩ := ob_some e
    refine V_callV (pc := 17) (bc := 0) (bs := 0) (mc := 0) (ms := 0) (st := [.int v1, .ref q4]) (As := [.int v1]) (a := v0) (h' := h) (r := some (.int r7)) dX12_sits_17 ml_X12_247 (ci := 11) rfl (of_decide_eq_true g3) rfl rfl (Nat.le_of_ble_eq_true rfl) (d' := 0) (by decide) (c_X12_roomOf (l := x.2.1) v0 v1 h g6) ?_
    obtain ⟨g8, e⟩ := gd_some e
    obtain ⟨g9, e⟩ := gd_some e
    refine V_iast (pc := 20) dX12_sits_20 (of_decide_eq_true g8) (ix_in g9) ?_
    refine V_iinc (pc := 21) (i := 1) (u := v1 + (1 : Int32)) (lv' := [(1, .int (v1 + (1 : Int32))), (0, .ref v0)]) dX12_sits_21 rfl rfl (by decide) rfl ?_
    refine V_goto (pc := 24) (tgt := 2) dX12_sits_24 (by decide) ?_
    cases e
    exact V_pick [1, 0] rfl (kI (v1 + (1 : Int32), setI h q4 (v1).toNatClampNeg r7) rfl)
set_option maxRecDepth 100000 in
def F_X12_sits_b0 (v0 : Nat) (h : Hp) : Option (Unit × Hp) :=
  ob (iter (fun z : Int32 × Hp => F_X12_sits_l2 v0 z.1 z.2) FU ((0 : Int32), h)) (fun h11 => some ((), h11))
set_option maxHeartbeats 4000000 in
set_option maxRecDepth 100000 in
theorem r_X12_sits_b0 (v0 : Nat) (h : Hp) {x : Cx} {r : Unit} {hz : Hp} (e : F_X12_sits_b0 v0 h = some (r, hz)) (hF : Fin9 M_X12_sits x none none hz) : V M_X12_sits x 1 0 [(0, .ref v0)] [] h 0 0 := by
  unfold F_X12_sits_b0 at e
  refine V_iconst (pc := 0) (v := (0 : Int32)) dX12_sits_0 (by decide) ?_
  refine V_istore_n (pc := 1) (i := 1) (lv' := [(1, .int (0 : Int32)), (0, .ref v0)]) dX12_sits_1 rfl (by decide) rfl ?_
  refine V_pick [1, 0] rfl ?_
  obtain ⟨y12, g13, e⟩ := ob_some e
  refine iter_V (P := fun z : Int32 × Hp => V M_X12_sits x 1 2 [(0, .ref v0), (1, .int z.1)] [] z.2 0 0) (E := fun z : Hp => V M_X12_sits x 1 27 [] [] z 0 0) (fun z o e9 k1 k2 => r_X12_sits_l2 v0 z.1 z.2 e9 (fun z hz9 => k1 z hz9) (fun z hz9 => k2 _ hz9)) _ _ _ g13 ?_
  clear g13
  obtain ⟨h11, rfl⟩ : ∃ q, q = y12 := ⟨_, rfl⟩
  replace e : (some ((), h11)) = some (r, hz) := e
  show V M_X12_sits x 1 27 [] [] h11 0 0
  cases e
  exact V_vret (pc := 27) dX12_sits_27 hF
def F_X12_sits (v0 : Nat) (h : Hp) : Option (Unit × Hp) := F_X12_sits_b0 v0 h
theorem c_X12_sits {l : Launch} (v0 : Nat) (h : Hp) {r : Unit} {hz : Hp} (e : F_X12_sits v0 h = some (r, hz)) : Ct l yX12_sits M_X12_sits none 1 [.ref v0] h 0 0 none hz :=
  Ct_of rfl rfl (fun q => by cases q) (Nat.le_of_ble_eq_true rfl) (fun x _ hF => V_pick [0] rfl (r_X12_sits_b0 v0 h e hF))
theorem dX12_stoveBy_0 : decode cX12_stoveBy 0 = .ok (.aload_n 0, 1) := by decide +kernel
theorem dX12_stoveBy_1 : decode cX12_stoveBy 1 = .ok (.iload_n 2, 1) := by decide +kernel
theorem dX12_stoveBy_2 : decode cX12_stoveBy 2 = .ok (.invokevirtual 250, 3) := by decide +kernel
theorem dX12_stoveBy_5 : decode cX12_stoveBy 5 = .ok (.ifCond .eq 7, 3) := by decide +kernel
theorem dX12_stoveBy_8 : decode cX12_stoveBy 8 = .ok (.iconst 0, 1) := by decide +kernel
theorem dX12_stoveBy_9 : decode cX12_stoveBy 9 = .ok (.goto 17, 3) := by decide +kernel
theorem dX12_stoveBy_12 : decode cX12_stoveBy 12 = .ok (.aload_n 0, 1) := by decide +kernel
theorem dX12_stoveBy_13 : decode cX12_stoveBy 13 = .ok (.getfield 13, 3) := by decide +kernel
theorem dX12_stoveBy_16 : decode cX12_stoveBy 16 = .ok (.bipush 7, 2) := by decide +kernel
theorem dX12_stoveBy_18 : decode cX12_stoveBy 18 = .ok (.iaload, 1) := by decide +kernel
theorem dX12_stoveBy_19 : decode cX12_stoveBy 19 = .ok (.aload_n 0, 1) := by decide +kernel
theorem dX12_stoveBy_20 : decode cX12_stoveBy 20 = .ok (.iload_n 2, 1) := by decide +kernel
theorem dX12_stoveBy_21 : decode cX12_stoveBy 21 = .ok (.iload_n 1, 1) := by decide +kernel
theorem dX12_stoveBy_22 : decode cX12_stoveBy 22 = .ok (.invokevirtual 131, 3) := by decide +kernel
theorem dX12_stoveBy_25 : decode cX12_stoveBy 25 = .ok (.imul, 1) := by decide +kernel
theorem dX12_stoveBy_26 : decode cX12_stoveBy 26 = .ok (.ireturn, 1) := by decide +kernel
set_option maxRecDepth 100000 in
def F_X12_stoveBy_b26 (t0 : Int32) (h : Hp) : Option Int32 :=
  some t0
set_option maxHeartbeats 4000000 in
set_option maxRecDepth 100000 in
theorem r_X12_stoveBy_b26 (t0 : Int32) (h : Hp) {x : Cx} {r : Int32} (e : F_X12_stoveBy_b26 t0 h = some r) (hF : Fin9 M_X12_stoveBy x (some .int) (some (.int r)) h) : V M_X12_stoveBy x 2 26 [] [.int t0] h 0 0 := by
  unfold F_X12_stoveBy_b26 at e
  cases e
  exact V_iret (pc := 26) dX12_stoveBy_26 hF
set_option maxRecDepth 100000 in
def F_X12_stoveBy_b0 (v0 : Nat) (v1 : Int32) (v2 : Int32) (h : Hp) : Option Int32 :=
  ob (F_X12_noRoom v0 v2 h) fun r2 => gd (decide (kd h v0 = 11)) <| (if r2 = 0 then ob (zR h v0 1) fun q4 => gd (decide (kd h q4 = 13)) <| gd (ix (7 : Int32) (zl h q4)) <| ob (F_X12_ofRoom v0 v2 v1 h) fun r9 => F_X12_stoveBy_b26 ((zI h q4 ((7 : Int32)).toNatClampNeg) * r9) h else F_X12_stoveBy_b26 (0 : Int32) h)
set_option maxHeartbeats 4000000 in
set_option maxRecDepth 100000 in
theorem r_X12_stoveBy_b0 (v0 : Nat) (v1 : Int32) (v2 : Int32) (h : Hp) {x : Cx} {r : Int32} (e : F_X12_stoveBy_b0 v0 v1 v2 h = some r) (hF : Fin9 M_X12_stoveBy x (some .int) (some (.int r)) h) : V M_X12_stoveBy x 2 0 [(0, .ref v0), (1, .int v1), (2, .int v2)] [] h 0 0 := by
  unfold F_X12_stoveBy_b0 at e
  refine V_aload_n (pc := 0) (i := 0) dX12_stoveBy_0 rfl rfl ?_
  refine V_iload_n (pc := 1) (i := 2) dX12_stoveBy_1 rfl rfl ?_
  obtain ⟨r2, g1, e⟩ := ob_some e
  obtain ⟨g3, e⟩ := gd_some e
  refine V_callV (pc := 2) (bc := 0) (bs := 0) (mc := 0) (ms := 0) (st := []) (As := [.int v2]) (a := v0) (h' := h) (r := some (.int r2)) dX12_stoveBy_2 ml_X12_250 (ci := 11) rfl (of_decide_eq_true g3) rfl rfl (Nat.le_of_ble_eq_true rfl) (d' := 1) (by decide) (c_X12_noRoom (l := x.2.1) v0 v2 h g1) ?_
  refine V_if_eq (pc := 5) (tgt := 12) dX12_stoveBy_5 (by decide) (fun c10 => ?_) (fun c10 => ?_)
  · rw [if_pos c10] at e
    refine V_pick [0, 1, 2] rfl ?_
    refine V_aload_n (pc := 12) (i := 0) dX12_stoveBy_12 rfl rfl ?_
    obtain ⟨q4, g5, e⟩ := ob_some e
    refine V_getR (pc := 13) (ci := 11) (k := 1) (b := q4) dX12_stoveBy_13 fl_X12_13 rfl (of_decide_eq_true g3) g5 ?_
    refine V_bipush (pc := 16) (v := (7 : Int32)) dX12_stoveBy_16 (by decide) ?_
    obtain ⟨g6, e⟩ := gd_some e
    obtain ⟨g7, e⟩ := gd_some e
    refine V_iald (pc := 18) dX12_stoveBy_18 (of_decide_eq_true g6) (ix_in g7) ?_
    refine V_aload_n (pc := 19) (i := 0) dX12_stoveBy_19 rfl rfl ?_
    refine V_iload_n (pc := 20) (i := 2) dX12_stoveBy_20 rfl rfl ?_
    refine V_iload_n (pc := 21) (i := 1) dX12_stoveBy_21 rfl rfl ?_
    obtain ⟨r9, g8, e⟩ := ob_some e
    refine V_callV (pc := 22) (bc := 0) (bs := 0) (mc := 0) (ms := 0) (st := [.int (zI h q4 ((7 : Int32)).toNatClampNeg)]) (As := [.int v2, .int v1]) (a := v0) (h' := h) (r := some (.int r9)) dX12_stoveBy_22 ml_X12_131 (ci := 11) rfl (of_decide_eq_true g3) rfl rfl (Nat.le_of_ble_eq_true rfl) (d' := 0) (by decide) (c_X12_ofRoom (l := x.2.1) v0 v2 v1 h g8) ?_
    refine V_imul (pc := 25) dX12_stoveBy_25 ?_
    exact V_pick [] rfl (r_X12_stoveBy_b26 ((zI h q4 ((7 : Int32)).toNatClampNeg) * r9) h e hF)
  · rw [if_neg c10] at e
    refine V_pick [] rfl ?_
    refine V_iconst (pc := 8) (v := (0 : Int32)) dX12_stoveBy_8 (by decide) ?_
    refine V_goto (pc := 9) (tgt := 26) dX12_stoveBy_9 (by decide) ?_
    exact V_pick [] rfl (r_X12_stoveBy_b26 (0 : Int32) h e hF)
def F_X12_stoveBy (v0 : Nat) (v1 : Int32) (v2 : Int32) (h : Hp) : Option Int32 := F_X12_stoveBy_b0 v0 v1 v2 h
theorem c_X12_stoveBy {l : Launch} (v0 : Nat) (v1 : Int32) (v2 : Int32) (h : Hp) {r : Int32} (e : F_X12_stoveBy v0 v1 v2 h = some r) : Ct l yX12_stoveBy M_X12_stoveBy (some .int) 2 [.ref v0, .int v1, .int v2] h 0 0 (some (.int r)) h :=
  Ct_of rfl rfl (fun q => by cases q) (Nat.le_of_ble_eq_true rfl) (fun x _ hF => V_pick [0, 1, 2] rfl (r_X12_stoveBy_b0 v0 v1 v2 h e hF))
theorem dX12_netWithout_0 : decode cX12_netWithout 0 = .ok (.aload_n 0, 1) := by decide +kernel
theorem dX12_netWithout_1 : decode cX12_netWithout 1 = .ok (.iload_n 1, 1) := by decide +kernel
theorem dX12_netWithout_2 : decode cX12_netWithout 2 = .ok (.iload_n 2, 1) := by decide +kernel
theorem dX12_netWithout_3 : decode cX12_netWithout 3 = .ok (.invokevirtual 253, 3) := by decide +kernel
theorem dX12_netWithout_6 : decode cX12_netWithout 6 = .ok (.istore_n 3, 1) := by decide +kernel
theorem dX12_netWithout_7 : decode cX12_netWithout 7 = .ok (.iconst 0, 1) := by decide +kernel
theorem dX12_netWithout_8 : decode cX12_netWithout 8 = .ok (.istore 4, 2) := by decide +kernel
theorem dX12_netWithout_10 : decode cX12_netWithout 10 = .ok (.iload 4, 2) := by decide +kernel
theorem dX12_netWithout_12 : decode cX12_netWithout 12 = .ok (.aload_n 0, 1) := by decide +kernel
theorem dX12_netWithout_13 : decode cX12_netWithout 13 = .ok (.invokevirtual 60, 3) := by decide +kernel
theorem dX12_netWithout_16 : decode cX12_netWithout 16 = .ok (.if_icmp .ge 27, 3) := by decide +kernel
theorem dX12_netWithout_19 : decode cX12_netWithout 19 = .ok (.iload_n 3, 1) := by decide +kernel
theorem dX12_netWithout_20 : decode cX12_netWithout 20 = .ok (.aload_n 0, 1) := by decide +kernel
theorem dX12_netWithout_21 : decode cX12_netWithout 21 = .ok (.iload 4, 2) := by decide +kernel
theorem dX12_netWithout_23 : decode cX12_netWithout 23 = .ok (.iconst 3, 1) := by decide +kernel
theorem dX12_netWithout_24 : decode cX12_netWithout 24 = .ok (.invokevirtual 131, 3) := by decide +kernel
theorem dX12_netWithout_27 : decode cX12_netWithout 27 = .ok (.aload_n 0, 1) := by decide +kernel
theorem dX12_netWithout_28 : decode cX12_netWithout 28 = .ok (.iload 4, 2) := by decide +kernel
theorem dX12_netWithout_30 : decode cX12_netWithout 30 = .ok (.iload_n 1, 1) := by decide +kernel
theorem dX12_netWithout_31 : decode cX12_netWithout 31 = .ok (.invokevirtual 131, 3) := by decide +kernel
theorem dX12_netWithout_34 : decode cX12_netWithout 34 = .ok (.imul, 1) := by decide +kernel
theorem dX12_netWithout_35 : decode cX12_netWithout 35 = .ok (.iadd, 1) := by decide +kernel
theorem dX12_netWithout_36 : decode cX12_netWithout 36 = .ok (.istore_n 3, 1) := by decide +kernel
theorem dX12_netWithout_37 : decode cX12_netWithout 37 = .ok (.iinc 4 1, 3) := by decide +kernel
theorem dX12_netWithout_40 : decode cX12_netWithout 40 = .ok (.goto (-30), 3) := by decide +kernel
theorem dX12_netWithout_43 : decode cX12_netWithout 43 = .ok (.iload_n 3, 1) := by decide +kernel
theorem dX12_netWithout_44 : decode cX12_netWithout 44 = .ok (.ireturn, 1) := by decide +kernel
set_option maxRecDepth 100000 in
def F_X12_netWithout_l10 (v0 : Nat) (v1 : Int32) (v3 : Int32) (v4 : Int32) (h : Hp) : Option ((Int32 × Int32) ⊕ Int32) :=
  ob (F_X12_rooms v0 h) fun r5 => gd (decide (kd h v0 = 11)) <| (if r5 ≤ v4 then some (.inr v3) else ob (F_X12_ofRoom v0 v4 (3 : Int32) h) fun r8 => ob (F_X12_ofRoom v0 v4 v1 h) fun r10 => some (.inl (v3 + (r8 * r10), v4 + (1 : Int32))))
set_option maxHeartbeats 4000000 in
set_option maxRecDepth 100000 in
theorem r_X12_netWithout_l10 (v0 : Nat) (v1 : Int32) (v3 : Int32) (v4 : Int32) (h : Hp) {x : Cx} {o : ((Int32 × Int32) ⊕ Int32)} (e : F_X12_netWithout_l10 v0 v1 v3 v4 h = some o) (kI : ∀ z, o = .inl z → V M_X12_netWithout x 3 10 [(0, .ref v0), (1, .int v1), (3, .int z.1), (4, .int z.2)] [] h 0 0) (kE43 : ∀ z : Int32, o = .inr z → V M_X12_netWithout x 3 43 [(3, .int z)] [] h 0 0) : V M_X12_netWithout x 3 10 [(0, .ref v0), (1, .int v1), (3, .int v3), (4, .int v4)] [] h 0 0 := by
  unfold F_X12_netWithout_l10 at e
  refine V_iload (pc := 10) (i := 4) dX12_netWithout_10 rfl ?_
  refine V_aload_n (pc := 12) (i := 0) dX12_netWithout_12 rfl rfl ?_
  obtain ⟨r5, g4, e⟩ := ob_some e
  obtain ⟨g6, e⟩ := gd_some e
  refine V_callV (pc := 13) (bc := 0) (bs := 0) (mc := 0) (ms := 0) (st := [.int v4]) (As := []) (a := v0) (h' := h) (r := some (.int r5)) dX12_netWithout_13 ml_X12_60 (ci := 11) rfl (of_decide_eq_true g6) rfl rfl (Nat.le_of_ble_eq_true rfl) (d' := 0) (by decide) (c_X12_rooms (l := x.2.1) v0 h g4) ?_
  refine V_icmp_ge (pc := 16) (tgt := 43) dX12_netWithout_16 (by decide) (fun c11 => ?_) (fun c11 => ?_)
  · rw [if_pos c11] at e
    cases e
    exact V_pick [2] rfl (kE43 v3 rfl)
  · rw [if_neg c11] at e
    refine V_pick [0, 1, 2, 3] rfl ?_
    refine V_iload_n (pc := 19) (i := 3) dX12_netWithout_19 rfl rfl ?_
    refine V_aload_n (pc := 20) (i := 0) dX12_netWithout_20 rfl rfl ?_
    refine V_iload (pc := 21) (i := 4) dX12_netWithout_21 rfl ?_
    refine V_iconst (pc := 23) (v := (3 : Int32)) dX12_netWithout_23 (by decide) ?_
    obtain ⟨r8, g7, e⟩ := ob_some e
    refine V_callV (pc := 24) (bc := 0) (bs := 0) (mc := 0) (ms := 0) (st := [.int v3]) (As := [.int v4, .int (3 : Int32)]) (a := v0) (h' := h) (r := some (.int r8)) dX12_netWithout_24 ml_X12_131 (ci := 11) rfl (of_decide_eq_true g6) rfl rfl (Nat.le_of_ble_eq_true rfl) (d' := 0) (by decide) (c_X12_ofRoom (l := x.2.1) v0 v4 (3 : Int32) h g7) ?_
    refine V_aload_n (pc := 27) (i := 0) dX12_netWithout_27 rfl rfl ?_
    refine V_iload (pc := 28) (i := 4) dX12_netWithout_28 rfl ?_
    refine V_iload_n (pc := 30) (i := 1) dX12_netWithout_30 rfl rfl ?_
    obtain ⟨r10, g9, e⟩ := ob_some e
    refine V_callV (pc := 31) (bc := 0) (bs := 0) (mc := 0) (ms := 0) (st := [.int r8, .int v3]) (As := [.int v4, .int v1]) (a := v0) (h' := h) (r := some (.int r10)) dX12_netWithout_31 ml_X12_131 (ci := 11) rfl (of_decide_eq_true g6) rfl rfl (Nat.le_of_ble_eq_true rfl) (d' := 0) (by decide) (c_X12_ofRoom (l := x.2.1) v0 v4 v1 h g9) ?_
    refine V_imul (pc := 34) dX12_netWithout_34 ?_
    refine V_iadd (pc := 35) dX12_netWithout_35 ?_
    refine V_istore_n (pc := 36) (i := 3) (lv' := [(3, .int (v3 + (r8 * r10))), (0, .ref v0), (1, .int v1), (4, .int v4)]) dX12_netWithout_36 rfl (by decide) rfl ?_
    refine V_iinc (pc := 37) (i := 4) (u := v4 + (1 : Int32)) (lv' := [(4, .int (v4 + (1 : Int32))), (3, .int (v3 + (r8 * r10))), (0, .ref v0), (1, .int v1)]) dX12_netWithout_37 rfl rfl (by decide) rfl ?_
    refine V_goto (pc := 40) (tgt := 10) dX12_netWithout_40 (by decide) ?_
    cases e
    exact V_pick [2, 3, 1, 0] rfl (kI (v3 + (r8 * r10), v4 + (1 : Int32)) rfl)
set_option maxRecDepth 100000 in
def F_X12_netWithout_b0 (v0 : Nat) (v1 : Int32) (v2 : Int32) (h : Hp) : Option Int32 :=
  ob (F_X12_stoveBy v0 v1 v2 h) fun r2 => gd (decide (kd h v0 = 11)) <| ob (iter (fun z : Int32 × Int32 => F_X12_netWithout_l10 v0 v1 z.1 z.2 h) FU (r2, (0 : Int32))) (fun w12 => some w12)
set_option maxHeartbeats 4000000 in
set_option maxRecDepth 100000 in
theorem r_X12_netWithout_b0 (v0 : Nat) (v1 : Int32) (v2 : Int32) (h : Hp) {x : Cx} {r : Int32} (e : F_X12_netWithout_b0 v0 v1 v2 h = some r) (hF : Fin9 M_X12_netWithout x (some .int) (some (.int r)) h) : V M_X12_netWithout x 3 0 [(0, .ref v0), (1, .int v1), (2, .int v2)] [] h 0 0 := by
  unfold F_X12_netWithout_b0 at e
  refine V_aload_n (pc := 0) (i := 0) dX12_netWithout_0 rfl rfl ?_
  refine V_iload_n (pc := 1) (i := 1) dX12_netWithout_1 rfl rfl ?_
  refine V_iload_n (pc := 2) (i := 2) dX12_netWithout_2 rfl rfl ?_
  obtain ⟨r2, g1, e⟩ := ob_some e
  obtain ⟨g3, e⟩ := gd_some e
  refine V_callV (pc := 3) (bc := 0) (bs := 0) (mc := 0) (ms := 0) (st := []) (As := [.int v1, .int v2]) (a := v0) (h' := h) (r := some (.int r2)) dX12_netWithout_3 ml_X12_253 (ci := 11) rfl (of_decide_eq_true g3) rfl rfl (Nat.le_of_ble_eq_true rfl) (d' := 2) (by decide) (c_X12_stoveBy (l := x.2.1) v0 v1 v2 h g1) ?_
  refine V_istore_n (pc := 6) (i := 3) (lv' := [(3, .int r2), (0, .ref v0), (1, .int v1), (2, .int v2)]) dX12_netWithout_6 rfl (by decide) rfl ?_
  refine V_iconst (pc := 7) (v := (0 : Int32)) dX12_netWithout_7 (by decide) ?_
  refine V_istore (pc := 8) (i := 4) (lv' := [(4, .int (0 : Int32)), (3, .int r2), (0, .ref v0), (1, .int v1), (2, .int v2)]) dX12_netWithout_8 (by decide) rfl ?_
  refine V_pick [2, 3, 1, 0] rfl ?_
  obtain ⟨y13, g14, e⟩ := ob_some e
  refine iter_V (P := fun z : Int32 × Int32 => V M_X12_netWithout x 3 10 [(0, .ref v0), (1, .int v1), (3, .int z.1), (4, .int z.2)] [] h 0 0) (E := fun z : Int32 => V M_X12_netWithout x 3 43 [(3, .int z)] [] h 0 0) (fun z o e9 k1 k2 => r_X12_netWithout_l10 v0 v1 z.1 z.2 h e9 (fun z hz9 => k1 z hz9) (fun z hz9 => k2 _ hz9)) _ _ _ g14 ?_
  clear g14
  obtain ⟨w12, rfl⟩ : ∃ q, q = y13 := ⟨_, rfl⟩
  replace e : (some w12) = some r := e
  show V M_X12_netWithout x 3 43 [(3, .int w12)] [] h 0 0
  refine V_iload_n (pc := 43) (i := 3) dX12_netWithout_43 rfl rfl ?_
  cases e
  exact V_iret (pc := 44) dX12_netWithout_44 hF
def F_X12_netWithout (v0 : Nat) (v1 : Int32) (v2 : Int32) (h : Hp) : Option Int32 := F_X12_netWithout_b0 v0 v1 v2 h
theorem c_X12_netWithout {l : Launch} (v0 : Nat) (v1 : Int32) (v2 : Int32) (h : Hp) {r : Int32} (e : F_X12_netWithout v0 v1 v2 h = some r) : Ct l yX12_netWithout M_X12_netWithout (some .int) 3 [.ref v0, .int v1, .int v2] h 0 0 (some (.int r)) h :=
  Ct_of rfl rfl (fun q => by cases q) (Nat.le_of_ble_eq_true rfl) (fun x _ hF => V_pick [0, 1, 2] rfl (r_X12_netWithout_b0 v0 v1 v2 h e hF))
theorem dX12_guestsBy_0 : decode cX12_guestsBy 0 = .ok (.iconst 0, 1) := by decide +kernel
theorem dX12_guestsBy_1 : decode cX12_guestsBy 1 = .ok (.istore_n 2, 1) := by decide +kernel
theorem dX12_guestsBy_2 : decode cX12_guestsBy 2 = .ok (.iconst 0, 1) := by decide +kernel
theorem dX12_guestsBy_3 : decode cX12_guestsBy 3 = .ok (.istore_n 3, 1) := by decide +kernel
theorem dX12_guestsBy_4 : decode cX12_guestsBy 4 = .ok (.iload_n 3, 1) := by decide +kernel
theorem dX12_guestsBy_5 : decode cX12_guestsBy 5 = .ok (.aload_n 0, 1) := by decide +kernel
theorem dX12_guestsBy_6 : decode cX12_guestsBy 6 = .ok (.invokevirtual 68, 3) := by decide +kernel
theorem dX12_guestsBy_9 : decode cX12_guestsBy 9 = .ok (.if_icmp .ge 29, 3) := by decide +kernel
theorem dX12_guestsBy_12 : decode cX12_guestsBy 12 = .ok (.iload_n 2, 1) := by decide +kernel
theorem dX12_guestsBy_13 : decode cX12_guestsBy 13 = .ok (.aload_n 0, 1) := by decide +kernel
theorem dX12_guestsBy_14 : decode cX12_guestsBy 14 = .ok (.iload_n 3, 1) := by decide +kernel
theorem dX12_guestsBy_15 : decode cX12_guestsBy 15 = .ok (.invokevirtual 256, 3) := by decide +kernel
theorem dX12_guestsBy_18 : decode cX12_guestsBy 18 = .ok (.aload_n 0, 1) := by decide +kernel
theorem dX12_guestsBy_19 : decode cX12_guestsBy 19 = .ok (.aload_n 0, 1) := by decide +kernel
theorem dX12_guestsBy_20 : decode cX12_guestsBy 20 = .ok (.getfield 36, 3) := by decide +kernel
theorem dX12_guestsBy_23 : decode cX12_guestsBy 23 = .ok (.iload_n 3, 1) := by decide +kernel
theorem dX12_guestsBy_24 : decode cX12_guestsBy 24 = .ok (.iaload, 1) := by decide +kernel
theorem dX12_guestsBy_25 : decode cX12_guestsBy 25 = .ok (.iload_n 1, 1) := by decide +kernel
theorem dX12_guestsBy_26 : decode cX12_guestsBy 26 = .ok (.invokevirtual 131, 3) := by decide +kernel
theorem dX12_guestsBy_29 : decode cX12_guestsBy 29 = .ok (.imul, 1) := by decide +kernel
theorem dX12_guestsBy_30 : decode cX12_guestsBy 30 = .ok (.iadd, 1) := by decide +kernel
theorem dX12_guestsBy_31 : decode cX12_guestsBy 31 = .ok (.istore_n 2, 1) := by decide +kernel
theorem dX12_guestsBy_32 : decode cX12_guestsBy 32 = .ok (.iinc 3 1, 3) := by decide +kernel
theorem dX12_guestsBy_35 : decode cX12_guestsBy 35 = .ok (.goto (-31), 3) := by decide +kernel
theorem dX12_guestsBy_38 : decode cX12_guestsBy 38 = .ok (.iload_n 2, 1) := by decide +kernel
theorem dX12_guestsBy_39 : decode cX12_guestsBy 39 = .ok (.ireturn, 1) := by decide +kernel
set_option maxRecDepth 100000 in
def F_X12_guestsBy_l4 (v0 : Nat) (v1 : Int32) (v2 : Int32) (v3 : Int32) (h : Hp) : Option ((Int32 × Int32) ⊕ Int32) :=
  ob (F_X12_guests v0 h) fun r2 => gd (decide (kd h v0 = 11)) <| (if r2 ≤ v3 then some (.inr v2) else ob (F_X12_weightOf v0 v3 h) fun r5 => ob (zR h v0 15) fun q6 => gd (decide (kd h q6 = 13)) <| gd (ix v3 (zl h q6)) <| ob (F_X12_ofRoom v0 (zI h q6 (v3).toNatClampNeg) v1 h) fun r11 => some (.inl (v2 + (r5 * r11), v3 + (1 : Int32))))
set_option maxHeartbeats 4000000 in
set_option maxRecDepth 100000 in
theorem r_X12_guestsBy_l4 (v0 : Nat) (v1 : Int32) (v2 : Int32) (v3 : Int32) (h : Hp) {x : Cx} {o : ((Int32 × Int32) ⊕ Int32)} (e : F_X12_guestsBy_l4 v0 v1 v2 v3 h = some o) (kI : ∀ z, o = .inl z → V M_X12_guestsBy x 1 4 [(0, .ref v0), (1, .int v1), (2, .int z.1), (3, .int z.2)] [] h 0 0) (kE38 : ∀ z : Int32, o = .inr z → V M_X12_guestsBy x 1 38 [(2, .int z)] [] h 0 0) : V M_X12_guestsBy x 1 4 [(0, .ref v0), (1, .int v1), (2, .int v2), (3, .int v3)] [] h 0 0 := by
  unfold F_X12_guestsBy_l4 at e
  refine V_iload_n (pc := 4) (i := 3) dX12_guestsBy_4 rfl rfl ?_
  refine V_aload_n (pc := 5) (i := 0) dX12_guestsBy_5 rfl rfl ?_
  obtain ⟨r2, g1, e⟩ := ob_some e
  obtain ⟨g3, e⟩ := gd_some e
  refine V_callV (pc := 6) (bc := 0) (bs := 0) (mc := 0) (ms := 0) (st := [.int v3]) (As := []) (a := v0) (h' := h) (r := some (.int r2)) dX12_guestsBy_6 ml_X12_68 (ci := 11) rfl (of_decide_eq_true g3) rfl rfl (Nat.le_of_ble_eq_true rfl) (d' := 0) (by decide) (c_X12_guests (l := x.2.1) v0 h g1) ?_
  refine V_icmp_ge (pc := 9) (tgt := 38) dX12_guestsBy_9 (by decide) (fun c12 => ?_) (fun c12 => ?_)
  · rw [if_pos c12] at e
    cases e
    exact V_pick [2] rfl (kE38 v2 rfl)
  · rw [if_neg c12] at e
    refine V_pick [0, 1, 2, 3] rfl ?_
    refine V_iload_n (pc := 12) (i := 2) dX12_guestsBy_12 rfl rfl ?_
    refine V_aload_n (pc := 13) (i := 0) dX12_guestsBy_13 rfl rfl ?_
    refine V_iload_n (pc := 14) (i := 3) dX12_guestsBy_14 rfl rfl ?_
    obtain ⟨r5, g4, e⟩ := ob_some e
    refine V_callV (pc := 15) (bc := 0) (bs := 0) (mc := 0) (ms := 0) (st := [.int v2]) (As := [.int v3]) (a := v0) (h' := h) (r := some (.int r5)) dX12_guestsBy_15 ml_X12_256 (ci := 11) rfl (of_decide_eq_true g3) rfl rfl (Nat.le_of_ble_eq_true rfl) (d' := 0) (by decide) (c_X12_weightOf (l := x.2.1) v0 v3 h g4) ?_
    refine V_aload_n (pc := 18) (i := 0) dX12_guestsBy_18 rfl rfl ?_
    refine V_aload_n (pc := 19) (i := 0) dX12_guestsBy_19 rfl rfl ?_
    obtain ⟨q6, g7, e⟩ := ob_some e
    refine V_getR (pc := 20) (ci := 11) (k := 15) (b := q6) dX12_guestsBy_20 fl_X12_36 rfl (of_decide_eq_true g3) g7 ?_
    refine V_iload_n (pc := 23) (i := 3) dX12_guestsBy_23 rfl rfl ?_
    obtain ⟨g8, e⟩ := gd_some e
    obtain ⟨g9, e⟩ := gd_some e
    refine V_iald (pc := 24) dX12_guestsBy_24 (of_decide_eq_true g8) (ix_in g9) ?_
    refine V_iload_n (pc := 25) (i := 1) dX12_guestsBy_25 rfl rfl ?_
    obtain ⟨r11, g10, e⟩ := ob_some e
    refine V_callV (pc := 26) (bc := 0) (bs := 0) (mc := 0) (ms := 0) (st := [.int r5, .int v2]) (As := [.int (zI h q6 (v3).toNatClampNeg), .int v1]) (a := v0) (h' := h) (r := some (.int r11)) dX12_guestsBy_26 ml_X12_131 (ci := 11) rfl (of_decide_eq_true g3) rfl rfl (Nat.le_of_ble_eq_true rfl) (d' := 0) (by decide) (c_X12_ofRoom (l := x.2.1) v0 (zI h q6 (v3).toNatClampNeg) v1 h g10) ?_
    refine V_imul (pc := 29) dX12_guestsBy_29 ?_
    refine V_iadd (pc := 30) dX12_guestsBy_30 ?_
    refine V_istore_n (pc := 31) (i := 2) (lv' := [(2, .int (v2 + (r5 * r11))), (0, .ref v0), (1, .int v1), (3, .int v3)]) dX12_guestsBy_31 rfl (by decide) rfl ?_
    refine V_iinc (pc := 32) (i := 3) (u := v3 + (1 : Int32)) (lv' := [(3, .int (v3 + (1 : Int32))), (2, .int (v2 + (r5 * r11))), (0, .ref v0), (1, .int v1)]) dX12_guestsBy_32 rfl rfl (by decide) rfl ?_
    refine V_goto (pc := 35) (tgt := 4) dX12_guestsBy_35 (by decide) ?_
    cases e
    exact V_pick [2, 3, 1, 0] rfl (kI (v2 + (r5 * r11), v3 + (1 : Int32)) rfl)
set_option maxRecDepth 100000 in
def F_X12_guestsBy_b0 (v0 : Nat) (v1 : Int32) (h : Hp) : Option Int32 :=
  ob (iter (fun z : Int32 × Int32 => F_X12_guestsBy_l4 v0 v1 z.1 z.2 h) FU ((0 : Int32), (0 : Int32))) (fun w13 => some w13)
set_option maxHeartbeats 4000000 in
set_option maxRecDepth 100000 in
theorem r_X12_guestsBy_b0 (v0 : Nat) (v1 : Int32) (h : Hp) {x : Cx} {r : Int32} (e : F_X12_guestsBy_b0 v0 v1 h = some r) (hF : Fin9 M_X12_guestsBy x (some .int) (some (.int r)) h) : V M_X12_guestsBy x 1 0 [(0, .ref v0), (1, .int v1)] [] h 0 0 := by
  unfold F_X12_guestsBy_b0 at e
  refine V_iconst (pc := 0) (v := (0 : Int32)) dX12_guestsBy_0 (by decide) ?_
  refine V_istore_n (pc := 1) (i := 2) (lv' := [(2, .int (0 : Int32)), (0, .ref v0), (1, .int v1)]) dX12_guestsBy_1 rfl (by decide) rfl ?_
  refine V_iconst (pc := 2) (v := (0 : Int32)) dX12_guestsBy_2 (by decide) ?_
  refine V_istore_n (pc := 3) (i := 3) (lv' := [(3, .int (0 : Int32)), (2, .int (0 : Int32)), (0, .ref v0), (1, .int v1)]) dX12_guestsBy_3 rfl (by decide) rfl ?_
  refine V_pick [2, 3, 1, 0] rfl ?_
  obtain ⟨y14, g15, e⟩ := ob_some e
  refine iter_V (P := fun z : Int32 × Int32 => V M_X12_guestsBy x 1 4 [(0, .ref v0), (1, .int v1), (2, .int z.1), (3, .int z.2)] [] h 0 0) (E := fun z : Int32 => V M_X12_guestsBy x 1 38 [(2, .int z)] [] h 0 0) (fun z o e9 k1 k2 => r_X12_guestsBy_l4 v0 v1 z.1 z.2 h e9 (fun z hz9 => k1 z hz9) (fun z hz9 => k2 _ hz9)) _ _ _ g15 ?_
  clear g15
  obtain ⟨w13, rfl⟩ : ∃ q, q = y14 := ⟨_, rfl⟩
  replace e : (some w13) = some r := e
  show V M_X12_guestsBy x 1 38 [(2, .int w13)] [] h 0 0
  refine V_iload_n (pc := 38) (i := 2) dX12_guestsBy_38 rfl rfl ?_
  cases e
  exact V_iret (pc := 39) dX12_guestsBy_39 hF
def F_X12_guestsBy (v0 : Nat) (v1 : Int32) (h : Hp) : Option Int32 := F_X12_guestsBy_b0 v0 v1 h
theorem c_X12_guestsBy {l : Launch} (v0 : Nat) (v1 : Int32) (h : Hp) {r : Int32} (e : F_X12_guestsBy v0 v1 h = some r) : Ct l yX12_guestsBy M_X12_guestsBy (some .int) 1 [.ref v0, .int v1] h 0 0 (some (.int r)) h :=
  Ct_of rfl rfl (fun q => by cases q) (Nat.le_of_ble_eq_true rfl) (fun x _ hF => V_pick [0, 1] rfl (r_X12_guestsBy_b0 v0 v1 h e hF))
theorem dX12_net_0 : decode cX12_net 0 = .ok (.aload_n 0, 1) := by decide +kernel
theorem dX12_net_1 : decode cX12_net 1 = .ok (.iload_n 1, 1) := by decide +kernel
theorem dX12_net_2 : decode cX12_net 2 = .ok (.aload_n 0, 1) := by decide +kernel
theorem dX12_net_3 : decode cX12_net 3 = .ok (.getfield 13, 3) := by decide +kernel
theorem dX12_net_6 : decode cX12_net 6 = .ok (.bipush 6, 2) := by decide +kernel
theorem dX12_net_8 : decode cX12_net 8 = .ok (.iaload, 1) := by decide +kernel
theorem dX12_net_9 : decode cX12_net 9 = .ok (.invokevirtual 259, 3) := by decide +kernel
theorem dX12_net_12 : decode cX12_net 12 = .ok (.aload_n 0, 1) := by decide +kernel
theorem dX12_net_13 : decode cX12_net 13 = .ok (.iload_n 1, 1) := by decide +kernel
theorem dX12_net_14 : decode cX12_net 14 = .ok (.invokevirtual 262, 3) := by decide +kernel
theorem dX12_net_17 : decode cX12_net 17 = .ok (.iadd, 1) := by decide +kernel
theorem dX12_net_18 : decode cX12_net 18 = .ok (.ireturn, 1) := by decide +kernel
set_option maxRecDepth 100000 in
def F_X12_net_b0 (v0 : Nat) (v1 : Int32) (h : Hp) : Option Int32 :=
  gd (decide (kd h v0 = 11)) <| ob (zR h v0 1) fun q2 => gd (decide (kd h q2 = 13)) <| gd (ix (6 : Int32) (zl h q2)) <| ob (F_X12_netWithout v0 v1 (zI h q2 ((6 : Int32)).toNatClampNeg) h) fun r7 => ob (F_X12_guestsBy v0 v1 h) fun r9 => some (r7 + r9)
set_option maxHeartbeats 4000000 in
set_option maxRecDepth 100000 in
theorem r_X12_net_b0 (v0 : Nat) (v1 : Int32) (h : Hp) {x : Cx} {r : Int32} (e : F_X12_net_b0 v0 v1 h = some r) (hF : Fin9 M_X12_net x (some .int) (some (.int r)) h) : V M_X12_net x 4 0 [(0, .ref v0), (1, .int v1)] [] h 0 0 := by
  unfold F_X12_net_b0 at e
  refine V_aload_n (pc := 0) (i := 0) dX12_net_0 rfl rfl ?_
  refine V_iload_n (pc := 1) (i := 1) dX12_net_1 rfl rfl ?_
  refine V_aload_n (pc := 2) (i := 0) dX12_net_2 rfl rfl ?_
  obtain ⟨g1, e⟩ := gd_some e
  obtain ⟨q2, g3, e⟩ := ob_some e
  refine V_getR (pc := 3) (ci := 11) (k := 1) (b := q2) dX12_net_3 fl_X12_13 rfl (of_decide_eq_true g1) g3 ?_
  refine V_bipush (pc := 6) (v := (6 : Int32)) dX12_net_6 (by decide) ?_
  obtain ⟨g4, e⟩ := gd_some e
  obtain ⟨g5, e⟩ := gd_some e
  refine V_iald (pc := 8) dX12_net_8 (of_decide_eq_true g4) (ix_in g5) ?_
  obtain ⟨r7, g6, e⟩ := ob_some e
  refine V_callV (pc := 9) (bc := 0) (bs := 0) (mc := 0) (ms := 0) (st := []) (As := [.int v1, .int (zI h q2 ((6 : Int32)).toNatClampNeg)]) (a := v0) (h' := h) (r := some (.int r7)) dX12_net_9 ml_X12_259 (ci := 11) rfl (of_decide_eq_true g1) rfl rfl (Nat.le_of_ble_eq_true rfl) (d' := 3) (by decide) (c_X12_netWithout (l := x.2.1) v0 v1 (zI h q2 ((6 : Int32)).toNatClampNeg) h g6) ?_
  refine V_aload_n (pc := 12) (i := 0) dX12_net_12 rfl rfl ?_
  refine V_iload_n (pc := 13) (i := 1) dX12_net_13 rfl rfl ?_
  obtain ⟨r9, g8, e⟩ := ob_some e
  refine V_callV (pc := 14) (bc := 0) (bs := 0) (mc := 0) (ms := 0) (st := [.int r7]) (As := [.int v1]) (a := v0) (h' := h) (r := some (.int r9)) dX12_net_14 ml_X12_262 (ci := 11) rfl (of_decide_eq_true g1) rfl rfl (Nat.le_of_ble_eq_true rfl) (d' := 1) (by decide) (c_X12_guestsBy (l := x.2.1) v0 v1 h g8) ?_
  refine V_iadd (pc := 17) dX12_net_17 ?_
  cases e
  exact V_iret (pc := 18) dX12_net_18 hF
def F_X12_net (v0 : Nat) (v1 : Int32) (h : Hp) : Option Int32 := F_X12_net_b0 v0 v1 h
theorem c_X12_net {l : Launch} (v0 : Nat) (v1 : Int32) (h : Hp) {r : Int32} (e : F_X12_net v0 v1 h = some r) : Ct l yX12_net M_X12_net (some .int) 4 [.ref v0, .int v1] h 0 0 (some (.int r)) h :=
  Ct_of rfl rfl (fun q => by cases q) (Nat.le_of_ble_eq_true rfl) (fun x _ hF => V_pick [0, 1] rfl (r_X12_net_b0 v0 v1 h e hF))
theorem dX12_trunksBy_0 : decode cX12_trunksBy 0 = .ok (.iconst 0, 1) := by decide +kernel
theorem dX12_trunksBy_1 : decode cX12_trunksBy 1 = .ok (.istore_n 3, 1) := by decide +kernel
theorem dX12_trunksBy_2 : decode cX12_trunksBy 2 = .ok (.iconst 0, 1) := by decide +kernel
theorem dX12_trunksBy_3 : decode cX12_trunksBy 3 = .ok (.istore 4, 2) := by decide +kernel
theorem dX12_trunksBy_5 : decode cX12_trunksBy 5 = .ok (.iload 4, 2) := by decide +kernel
theorem dX12_trunksBy_7 : decode cX12_trunksBy 7 = .ok (.aload_n 0, 1) := by decide +kernel
theorem dX12_trunksBy_8 : decode cX12_trunksBy 8 = .ok (.invokevirtual 71, 3) := by decide +kernel
theorem dX12_trunksBy_11 : decode cX12_trunksBy 11 = .ok (.if_icmp .ge 71, 3) := by decide +kernel
theorem dX12_trunksBy_14 : decode cX12_trunksBy 14 = .ok (.aload_n 0, 1) := by decide +kernel
theorem dX12_trunksBy_15 : decode cX12_trunksBy 15 = .ok (.aload_n 0, 1) := by decide +kernel
theorem dX12_trunksBy_16 : decode cX12_trunksBy 16 = .ok (.iload 4, 2) := by decide +kernel
theorem dX12_trunksBy_18 : decode cX12_trunksBy 18 = .ok (.iconst 2, 1) := by decide +kernel
theorem dX12_trunksBy_19 : decode cX12_trunksBy 19 = .ok (.invokevirtual 265, 3) := by decide +kernel
theorem dX12_trunksBy_22 : decode cX12_trunksBy 22 = .ok (.iload_n 1, 1) := by decide +kernel
theorem dX12_trunksBy_23 : decode cX12_trunksBy 23 = .ok (.invokevirtual 131, 3) := by decide +kernel
theorem dX12_trunksBy_26 : decode cX12_trunksBy 26 = .ok (.istore 5, 2) := by decide +kernel
theorem dX12_trunksBy_28 : decode cX12_trunksBy 28 = .ok (.aload_n 0, 1) := by decide +kernel
theorem dX12_trunksBy_29 : decode cX12_trunksBy 29 = .ok (.iload 4, 2) := by decide +kernel
theorem dX12_trunksBy_31 : decode cX12_trunksBy 31 = .ok (.iconst 0, 1) := by decide +kernel
theorem dX12_trunksBy_32 : decode cX12_trunksBy 32 = .ok (.invokevirtual 265, 3) := by decide +kernel
theorem dX12_trunksBy_35 : decode cX12_trunksBy 35 = .ok (.iload 5, 2) := by decide +kernel
theorem dX12_trunksBy_37 : decode cX12_trunksBy 37 = .ok (.imul, 1) := by decide +kernel
theorem dX12_trunksBy_38 : decode cX12_trunksBy 38 = .ok (.istore 6, 2) := by decide +kernel
theorem dX12_trunksBy_40 : decode cX12_trunksBy 40 = .ok (.aload_n 0, 1) := by decide +kernel
theorem dX12_trunksBy_41 : decode cX12_trunksBy 41 = .ok (.iload 4, 2) := by decide +kernel
theorem dX12_trunksBy_43 : decode cX12_trunksBy 43 = .ok (.iconst 1, 1) := by decide +kernel
theorem dX12_trunksBy_44 : decode cX12_trunksBy 44 = .ok (.invokevirtual 265, 3) := by decide +kernel
theorem dX12_trunksBy_47 : decode cX12_trunksBy 47 = .ok (.iload 5, 2) := by decide +kernel
theorem dX12_trunksBy_49 : decode cX12_trunksBy 49 = .ok (.imul, 1) := by decide +kernel
theorem dX12_trunksBy_50 : decode cX12_trunksBy 50 = .ok (.istore 7, 2) := by decide +kernel
theorem dX12_trunksBy_52 : decode cX12_trunksBy 52 = .ok (.iload_n 3, 1) := by decide +kernel
theorem dX12_trunksBy_53 : decode cX12_trunksBy 53 = .ok (.iload_n 2, 1) := by decide +kernel
theorem dX12_trunksBy_54 : decode cX12_trunksBy 54 = .ok (.ifCond .eq 13, 3) := by decide +kernel
theorem dX12_trunksBy_57 : decode cX12_trunksBy 57 = .ok (.iload 6, 2) := by decide +kernel
theorem dX12_trunksBy_59 : decode cX12_trunksBy 59 = .ok (.iload 7, 2) := by decide +kernel
theorem dX12_trunksBy_61 : decode cX12_trunksBy 61 = .ok (.invokestatic 268, 3) := by decide +kernel
theorem dX12_trunksBy_64 : decode cX12_trunksBy 64 = .ok (.goto 10, 3) := by decide +kernel
theorem dX12_trunksBy_67 : decode cX12_trunksBy 67 = .ok (.iload 6, 2) := by decide +kernel
theorem dX12_trunksBy_69 : decode cX12_trunksBy 69 = .ok (.iload 7, 2) := by decide +kernel
theorem dX12_trunksBy_71 : decode cX12_trunksBy 71 = .ok (.invokestatic 271, 3) := by decide +kernel
theorem dX12_trunksBy_74 : decode cX12_trunksBy 74 = .ok (.iadd, 1) := by decide +kernel
theorem dX12_trunksBy_75 : decode cX12_trunksBy 75 = .ok (.istore_n 3, 1) := by decide +kernel
theorem dX12_trunksBy_76 : decode cX12_trunksBy 76 = .ok (.iinc 4 1, 3) := by decide +kernel
theorem dX12_trunksBy_79 : decode cX12_trunksBy 79 = .ok (.goto (-74), 3) := by decide +kernel
theorem dX12_trunksBy_82 : decode cX12_trunksBy 82 = .ok (.iload_n 3, 1) := by decide +kernel
theorem dX12_trunksBy_83 : decode cX12_trunksBy 83 = .ok (.ireturn, 1) := by decide +kernel
set_option maxRecDepth 100000 in
def F_X12_trunksBy_b74 (v0 : Nat) (v1 : Int32) (v2 : Int32) (v4 : Int32) (t0 : Int32) (t1 : Int32) (h : Hp) : Option ((Int32 × Int32) ⊕ Int32) :=
  some (.inl (t0 + t1, v4 + (1 : Int32)))
set_option maxHeartbeats 4000000 in
set_option maxRecDepth 100000 in
theorem r_X12_trunksBy_b74 (v0 : Nat) (v1 : Int32) (v2 : Int32) (v4 : Int32) (t0 : Int32) (t1 : Int32) (h : Hp) {x : Cx} {o : ((Int32 × Int32) ⊕ Int32)} (e : F_X12_trunksBy_b74 v0 v1 v2 v4 t0 t1 h = some o) (kI : ∀ z, o = .inl z → V M_X12_trunksBy x 1 5 [(0, .ref v0), (1, .int v1), (2, .int v2), (3, .int z.1), (4, .int z.2)] [] h 0 0) (kE82 : ∀ z : Int32, o = .inr z → V M_X12_trunksBy x 1 82 [(3, .int z)] [] h 0 0) : V M_X12_trunksBy x 1 74 [(0, .ref v0), (1, .int v1), (2, .int v2), (4, .int v4)] [.int t1, .int t0] h 0 0 := by
  unfold F_X12_trunksBy_b74 at e
  refine V_iadd (pc := 74) dX12_trunksBy_74 ?_
  refine V_istore_n (pc := 75) (i := 3) (lv' := [(3, .int (t0 + t1)), (0, .ref v0), (1, .int v1), (2, .int v2), (4, .int v4)]) dX12_trunksBy_75 rfl (by decide) rfl ?_
  refine V_iinc (pc := 76) (i := 4) (u := v4 + (1 : Int32)) (lv' := [(4, .int (v4 + (1 : Int32))), (3, .int (t0 + t1)), (0, .ref v0), (1, .int v1), (2, .int v2)]) dX12_trunksBy_76 rfl rfl (by decide) rfl ?_
  refine V_goto (pc := 79) (tgt := 5) dX12_trunksBy_79 (by decide) ?_
  cases e
  exact V_pick [2, 3, 4, 1, 0] rfl (kI (t0 + t1, v4 + (1 : Int32)) rfl)
set_option maxRecDepth 100000 in
def F_X12_trunksBy_l5 (v0 : Nat) (v1 : Int32) (v2 : Int32) (v3 : Int32) (v4 : Int32) (h : Hp) : Option ((Int32 × Int32) ⊕ Int32) :=
  ob (F_X12_trunks v0 h) fun r2 => gd (decide (kd h v0 = 11)) <| (if r2 ≤ v4 then some (.inr v3) else ob (F_X12_ofTrunk v0 v4 (2 : Int32) h) fun r5 => ob (F_X12_ofRoom v0 r5 v1 h) fun r7 => ob (F_X12_ofTrunk v0 v4 (0 : Int32) h) fun r9 => ob (F_X12_ofTrunk v0 v4 (1 : Int32) h) fun r11 => (if v2 = 0 then F_X12_trunksBy_b74 v0 v1 v2 v4 v3 (jmin (r9 * r7) (r11 * r7)) h else F_X12_trunksBy_b74 v0 v1 v2 v4 v3 (jmax (r9 * r7) (r11 * r7)) h))
set_option maxHeartbeats 4000000 in
set_option maxRecDepth 100000 in
theorem r_X12_trunksBy_l5 (v0 : Nat) (v1 : Int32) (v2 : Int32) (v3 : Int32) (v4 : Int32) (h : Hp) {x : Cx} {o : ((Int32 × Int32) ⊕ Int32)} (e : F_X12_trunksBy_l5 v0 v1 v2 v3 v4 h = some o) (kI : ∀ z, o = .inl z → V M_X12_trunksBy x 1 5 [(0, .ref v0), (1, .int v1), (2, .int v2), (3, .int z.1), (4, .int z.2)] [] h 0 0) (kE82 : ∀ z : Int32, o = .inr z → V M_X12_trunksBy x 1 82 [(3, .int z)] [] h 0 0) : V M_X12_trunksBy x 1 5 [(0, .ref v0), (1, .int v1), (2, .int v2), (3, .int v3), (4, .int v4)] [] h 0 0 := by
  unfold F_X12_trunksBy_l5 at e
  refine V_iload (pc := 5) (i := 4) dX12_trunksBy_5 rfl ?_
  refine V_aload_n (pc := 7) (i := 0) dX12_trunksBy_7 rfl rfl ?_
  obtain ⟨r2, g1, e⟩ := ob_some e
  obtain ⟨g3, e⟩ := gd_some e
  refine V_callV (pc := 8) (bc := 0) (bs := 0) (mc := 0) (ms := 0) (st := [.int v4]) (As := []) (a := v0) (h' := h) (r := some (.int r2)) dX12_trunksBy_8 ml_X12_71 (ci := 11) rfl (of_decide_eq_true g3) rfl rfl (Nat.le_of_ble_eq_true rfl) (d' := 0) (by decide) (c_X12_trunks (l := x.2.1) v0 h g1) ?_
  refine V_icmp_ge (pc := 11) (tgt := 82) dX12_trunksBy_11 (by decide) (fun c13 => ?_) (fun c13 => ?_)
  · rw [if_pos c13] at e
    cases e
    exact V_pick [3] rfl (kE82 v3 rfl)
  · rw [if_neg c13] at e
    refine V_pick [0, 1, 2, 3, 4] rfl ?_
    refine V_aload_n (pc := 14) (i := 0) dX12_trunksBy_14 rfl rfl ?_
    refine V_aload_n (pc := 15) (i := 0) dX12_trunksBy_15 rfl rfl ?_
    refine V_iload (pc := 16) (i := 4) dX12_trunksBy_16 rfl ?_
    refine V_iconst (pc := 18) (v := (2 : Int32)) dX12_trunksBy_18 (by decide) ?_
    obtain ⟨r5, g4, e⟩ := ob_some e
    refine V_callV (pc := 19) (bc := 0) (bs := 0) (mc := 0) (ms := 0) (st := [.ref v0]) (As := [.int v4, .int (2 : Int32)]) (a := v0) (h' := h) (r := some (.int r5)) dX12_trunksBy_19 ml_X12_265 (ci := 11) rfl (of_decide_eq_true g3) rfl rfl (Nat.le_of_ble_eq_true rfl) (d' := 0) (by decide) (c_X12_ofTrunk (l := x.2.1) v0 v4 (2 : Int32) h g4) ?_
    refine V_iload_n (pc := 22) (i := 1) dX12_trunksBy_22 rfl rfl ?_
    obtain ⟨r7, g6, e⟩ := ob_some e
    refine V_callV (pc := 23) (bc := 0) (bs := 0) (mc := 0) (ms := 0) (st := []) (As := [.int r5, .int v1]) (a := v0) (h' := h) (r := some (.int r7)) dX12_trunksBy_23 ml_X12_131 (ci := 11) rfl (of_decide_eq_true g3) rfl rfl (Nat.le_of_ble_eq_true rfl) (d' := 0) (by decide) (c_X12_ofRoom (l := x.2.1) v0 r5 v1 h g6) ?_
    refine V_istore (pc := 26) (i := 5) (lv' := [(5, .int r7), (0, .ref v0), (1, .int v1), (2, .int v2), (3, .int v3), (4, .int v4)]) dX12_trunksBy_26 (by decide) rfl ?_
    refine V_aload_n (pc := 28) (i := 0) dX12_trunksBy_28 rfl rfl ?_
    refine V_iload (pc := 29) (i := 4) dX12_trunksBy_29 rfl ?_
    refine V_iconst (pc := 31) (v := (0 : Int32)) dX12_trunksBy_31 (by decide) ?_
    obtain ⟨r9, g8, e⟩ := ob_some e
    refine V_callV (pc := 32) (bc := 0) (bs := 0) (mc := 0) (ms := 0) (st := []) (As := [.int v4, .int (0 : Int32)]) (a := v0) (h' := h) (r := some (.int r9)) dX12_trunksBy_32 ml_X12_265 (ci := 11) rfl (of_decide_eq_true g3) rfl rfl (Nat.le_of_ble_eq_true rfl) (d' := 0) (by decide) (c_X12_ofTrunk (l := x.2.1) v0 v4 (0 : Int32) h g8) ?_
    refine V_iload (pc := 35) (i := 5) dX12_trunksBy_35 rfl ?_
    refine V_imul (pc := 37) dX12_trunksBy_37 ?_
    refine V_istore (pc := 38) (i := 6) (lv' := [(6, .int (r9 * r7)), (5, .int r7), (0, .ref v0), (1, .int v1), (2, .int v2), (3, .int v3), (4, .int v4)]) dX12_trunksBy_38 (by decide) rfl ?_
    refine V_aload_n (pc := 40) (i := 0) dX12_trunksBy_40 rfl rfl ?_
    refine V_iload (pc := 41) (i := 4) dX12_trunksBy_41 rfl ?_
    refine V_iconst (pc := 43) (v := (1 : Int32)) dX12_trunksBy_43 (by decide) ?_
    obtain ⟨r11, g10, e⟩ := ob_some e
    refine V_callV (pc := 44) (bc := 0) (bs := 0) (mc := 0) (ms := 0) (st := []) (As := [.int v4, .int (1 : Int32)]) (a := v0) (h' := h) (r := some (.int r11)) dX12_trunksBy_44 ml_X12_265 (ci := 11) rfl (of_decide_eq_true g3) rfl rfl (Nat.le_of_ble_eq_true rfl) (d' := 0) (by decide) (c_X12_ofTrunk (l := x.2.1) v0 v4 (1 : Int32) h g10) ?_
    refine V_iload (pc := 47) (i := 5) dX12_trunksBy_47 rfl ?_
    refine V_imul (pc := 49) dX12_trunksBy_49 ?_
    refine V_istore (pc := 50) (i := 7) (lv' := [(7, .int (r11 * r7)), (6, .int (r9 * r7)), (5, .int r7), (0, .ref v0), (1, .int v1), (2, .int v2), (3, .int v3), (4, .int v4)]) dX12_trunksBy_50 (by decide) rfl ?_
    refine V_iload_n (pc := 52) (i := 3) dX12_trunksBy_52 rfl rfl ?_
    refine V_iload_n (pc := 53) (i := 2) dX12_trunksBy_53 rfl rfl ?_
    refine V_if_eq (pc := 54) (tgt := 67) dX12_trunksBy_54 (by decide) (fun c12 => ?_) (fun c12 => ?_)
    · rw [if_pos c12] at e
      refine V_pick [3, 4, 5, 7, 1, 0] rfl ?_
      refine V_iload (pc := 67) (i := 6) dX12_trunksBy_67 rfl ?_
      refine V_iload (pc := 69) (i := 7) dX12_trunksBy_69 rfl ?_
      refine V_min (pc := 71) dX12_trunksBy_71 wm_X12_271 (by decide) (Nat.le_of_ble_eq_true rfl) ?_
      exact V_pick [0, 1, 2, 3] rfl (r_X12_trunksBy_b74 v0 v1 v2 v4 v3 (jmin (r9 * r7) (r11 * r7)) h e kI kE82)
    · rw [if_neg c12] at e
      refine V_pick [3, 4, 5, 7, 1, 0] rfl ?_
      refine V_iload (pc := 57) (i := 6) dX12_trunksBy_57 rfl ?_
      refine V_iload (pc := 59) (i := 7) dX12_trunksBy_59 rfl ?_
      refine V_max (pc := 61) dX12_trunksBy_61 wm_X12_268 (by decide) (Nat.le_of_ble_eq_true rfl) ?_
      refine V_goto (pc := 64) (tgt := 74) dX12_trunksBy_64 (by decide) ?_
      exact V_pick [0, 1, 2, 3] rfl (r_X12_trunksBy_b74 v0 v1 v2 v4 v3 (jmax (r9 * r7) (r11 * r7)) h e kI kE82)
set_option maxRecDepth 100000 in
def F_X12_trunksBy_b0 (v0 : Nat) (v1 : Int32) (v2 : Int32) (h : Hp) : Option Int32 :=
  ob (iter (fun z : Int32 × Int32 => F_X12_trunksBy_l5 v0 v1 v2 z.1 z.2 h) FU ((0 : Int32), (0 : Int32))) (fun w14 => some w14)
set_option maxHeartbeats 4000000 in
set_option maxRecDepth 100000 in
theorem r_X12_trunksBy_b0 (v0 : Nat) (v1 : Int32) (v2 : Int32) (h : Hp) {x : Cx} {r : Int32} (e : F_X12_trunksBy_b0 v0 v1 v2 h = some r) (hF : Fin9 M_X12_trunksBy x (some .int) (some (.int r)) h) : V M_X12_trunksBy x 1 0 [(0, .ref v0), (1, .int v1), (2, .int v2)] [] h 0 0 := by
  unfold F_X12_trunksBy_b0 at e
  refine V_iconst (pc := 0) (v := (0 : Int32)) dX12_trunksBy_0 (by decide) ?_
  refine V_istore_n (pc := 1) (i := 3) (lv' := [(3, .int (0 : Int32)), (0, .ref v0), (1, .int v1), (2, .int v2)]) dX12_trunksBy_1 rfl (by decide) rfl ?_
  refine V_iconst (pc := 2) (v := (0 : Int32)) dX12_trunksBy_2 (by decide) ?_
  refine V_istore (pc := 3) (i := 4) (lv' := [(4, .int (0 : Int32)), (3, .int (0 : Int32)), (0, .ref v0), (1, .int v1), (2, .int v2)]) dX12_trunksBy_3 (by decide) rfl ?_
  refine V_pick [2, 3, 4, 1, 0] rfl ?_
  obtain ⟨y15, g16, e⟩ := ob_some e
  refine iter_V (P := fun z : Int32 × Int32 => V M_X12_trunksBy x 1 5 [(0, .ref v0), (1, .int v1), (2, .int v2), (3, .int z.1), (4, .int z.2)] [] h 0 0) (E := fun z : Int32 => V M_X12_trunksBy x 1 82 [(3, .int z)] [] h 0 0) (fun z o e9 k1 k2 => r_X12_trunksBy_l5 v0 v1 v2 z.1 z.2 h e9 (fun z hz9 => k1 z hz9) (fun z hz9 => k2 _ hz9)) _ _ _ g16 ?_
  clear g16
  obtain ⟨w14, rfl⟩ : ∃ q, q = y15 := ⟨_, rfl⟩
  replace e : (some w14) = some r := e
  show V M_X12_trunksBy x 1 82 [(3, .int w14)] [] h 0 0
  refine V_iload_n (pc := 82) (i := 3) dX12_trunksBy_82 rfl rfl ?_
  cases e
  exact V_iret (pc := 83) dX12_trunksBy_83 hF
def F_X12_trunksBy (v0 : Nat) (v1 : Int32) (v2 : Int32) (h : Hp) : Option Int32 := F_X12_trunksBy_b0 v0 v1 v2 h
theorem c_X12_trunksBy {l : Launch} (v0 : Nat) (v1 : Int32) (v2 : Int32) (h : Hp) {r : Int32} (e : F_X12_trunksBy v0 v1 v2 h = some r) : Ct l yX12_trunksBy M_X12_trunksBy (some .int) 1 [.ref v0, .int v1, .int v2] h 0 0 (some (.int r)) h :=
  Ct_of rfl rfl (fun q => by cases q) (Nat.le_of_ble_eq_true rfl) (fun x _ hF => V_pick [0, 1, 2] rfl (r_X12_trunksBy_b0 v0 v1 v2 h e hF))
theorem dX12_isLevelBy_0 : decode cX12_isLevelBy 0 = .ok (.iload_n 2, 1) := by decide +kernel
theorem dX12_isLevelBy_1 : decode cX12_isLevelBy 1 = .ok (.aload_n 0, 1) := by decide +kernel
theorem dX12_isLevelBy_2 : decode cX12_isLevelBy 2 = .ok (.iload_n 1, 1) := by decide +kernel
theorem dX12_isLevelBy_3 : decode cX12_isLevelBy 3 = .ok (.iconst 0, 1) := by decide +kernel
theorem dX12_isLevelBy_4 : decode cX12_isLevelBy 4 = .ok (.invokevirtual 274, 3) := by decide +kernel
theorem dX12_isLevelBy_7 : decode cX12_isLevelBy 7 = .ok (.iadd, 1) := by decide +kernel
theorem dX12_isLevelBy_8 : decode cX12_isLevelBy 8 = .ok (.aload_n 0, 1) := by decide +kernel
theorem dX12_isLevelBy_9 : decode cX12_isLevelBy 9 = .ok (.getfield 13, 3) := by decide +kernel
theorem dX12_isLevelBy_12 : decode cX12_isLevelBy 12 = .ok (.bipush 8, 2) := by decide +kernel
theorem dX12_isLevelBy_14 : decode cX12_isLevelBy 14 = .ok (.iaload, 1) := by decide +kernel
theorem dX12_isLevelBy_15 : decode cX12_isLevelBy 15 = .ok (.ineg, 1) := by decide +kernel
theorem dX12_isLevelBy_16 : decode cX12_isLevelBy 16 = .ok (.if_icmp .lt 25, 3) := by decide +kernel
theorem dX12_isLevelBy_19 : decode cX12_isLevelBy 19 = .ok (.iload_n 2, 1) := by decide +kernel
theorem dX12_isLevelBy_20 : decode cX12_isLevelBy 20 = .ok (.aload_n 0, 1) := by decide +kernel
theorem dX12_isLevelBy_21 : decode cX12_isLevelBy 21 = .ok (.iload_n 1, 1) := by decide +kernel
theorem dX12_isLevelBy_22 : decode cX12_isLevelBy 22 = .ok (.iconst 1, 1) := by decide +kernel
theorem dX12_isLevelBy_23 : decode cX12_isLevelBy 23 = .ok (.invokevirtual 274, 3) := by decide +kernel
theorem dX12_isLevelBy_26 : decode cX12_isLevelBy 26 = .ok (.iadd, 1) := by decide +kernel
theorem dX12_isLevelBy_27 : decode cX12_isLevelBy 27 = .ok (.aload_n 0, 1) := by decide +kernel
theorem dX12_isLevelBy_28 : decode cX12_isLevelBy 28 = .ok (.getfield 13, 3) := by decide +kernel
theorem dX12_isLevelBy_31 : decode cX12_isLevelBy 31 = .ok (.bipush 8, 2) := by decide +kernel
theorem dX12_isLevelBy_33 : decode cX12_isLevelBy 33 = .ok (.iaload, 1) := by decide +kernel
theorem dX12_isLevelBy_34 : decode cX12_isLevelBy 34 = .ok (.if_icmp .gt 7, 3) := by decide +kernel
theorem dX12_isLevelBy_37 : decode cX12_isLevelBy 37 = .ok (.iconst 1, 1) := by decide +kernel
theorem dX12_isLevelBy_38 : decode cX12_isLevelBy 38 = .ok (.goto 4, 3) := by decide +kernel
theorem dX12_isLevelBy_41 : decode cX12_isLevelBy 41 = .ok (.iconst 0, 1) := by decide +kernel
theorem dX12_isLevelBy_42 : decode cX12_isLevelBy 42 = .ok (.ireturn, 1) := by decide +kernel
set_option maxRecDepth 100000 in
def F_X12_isLevelBy_b42 (t0 : Int32) (h : Hp) : Option Int32 :=
  gd (decide (t0 = 0 ∨ t0 = 1)) <| some t0
set_option maxHeartbeats 4000000 in
set_option maxRecDepth 100000 in
theorem r_X12_isLevelBy_b42 (t0 : Int32) (h : Hp) {x : Cx} {r : Int32} (e : F_X12_isLevelBy_b42 t0 h = some r) (hF : Fin9 M_X12_isLevelBy x (some .boolean) (some (.int r)) h) : V M_X12_isLevelBy x 2 42 [] [.int t0] h 0 0 := by
  unfold F_X12_isLevelBy_b42 at e
  obtain ⟨g8, e⟩ := gd_some e
  cases e
  exact V_zret (pc := 42) dX12_isLevelBy_42 (z01 (of_decide_eq_true g8)) hF
set_option maxRecDepth 100000 in
def F_X12_isLevelBy_b41  (h : Hp) : Option Int32 :=
  F_X12_isLevelBy_b42 (0 : Int32) h
set_option maxHeartbeats 4000000 in
set_option maxRecDepth 100000 in
theorem r_X12_isLevelBy_b41  (h : Hp) {x : Cx} {r : Int32} (e : F_X12_isLevelBy_b41  h = some r) (hF : Fin9 M_X12_isLevelBy x (some .boolean) (some (.int r)) h) : V M_X12_isLevelBy x 2 41 [] [] h 0 0 := by
  unfold F_X12_isLevelBy_b41 at e
  refine V_iconst (pc := 41) (v := (0 : Int32)) dX12_isLevelBy_41 (by decide) ?_
  exact V_pick [] rfl (r_X12_isLevelBy_b42 (0 : Int32) h e hF)
set_option maxRecDepth 100000 in
def F_X12_isLevelBy_b0 (v0 : Nat) (v1 : Int32) (v2 : Int32) (h : Hp) : Option Int32 :=
  ob (F_X12_trunksBy v0 v1 (0 : Int32) h) fun r2 => gd (decide (kd h v0 = 11)) <| ob (zR h v0 1) fun q4 => gd (decide (kd h q4 = 13)) <| gd (ix (8 : Int32) (zl h q4)) <| (if (v2 + r2) < (0 - (zI h q4 ((8 : Int32)).toNatClampNeg)) then F_X12_isLevelBy_b41 h else ob (F_X12_trunksBy v0 v1 (1 : Int32) h) fun r10 => ob (zR h v0 1) fun q11 => gd (decide (kd h q11 = 13)) <| gd (ix (8 : Int32) (zl h q11)) <| (if (zI h q11 ((8 : Int32)).toNatClampNeg) < (v2 + r10) then F_X12_isLevelBy_b41 h else F_X12_isLevelBy_b42 (1 : Int32) h))
set_option maxHeartbeats 4000000 in
set_option maxRecDepth 100000 in
theorem r_X12_isLevelBy_b0 (v0 : Nat) (v1 : Int32) (v2 : Int32) (h : Hp) {x : Cx} {r : Int32} (e : F_X12_isLevelBy_b0 v0 v1 v2 h = some r) (hF : Fin9 M_X12_isLevelBy x (some .boolean) (some (.int r)) h) : V M_X12_isLevelBy x 2 0 [(0, .ref v0), (1, .int v1), (2, .int v2)] [] h 0 0 := by
  unfold F_X12_isLevelBy_b0 at e
  refine V_iload_n (pc := 0) (i := 2) dX12_isLevelBy_0 rfl rfl ?_
  refine V_aload_n (pc := 1) (i := 0) dX12_isLevelBy_1 rfl rfl ?_
  refine V_iload_n (pc := 2) (i := 1) dX12_isLevelBy_2 rfl rfl ?_
  refine V_iconst (pc := 3) (v := (0 : Int32)) dX12_isLevelBy_3 (by decide) ?_
  obtain ⟨r2, g1, e⟩ := ob_some e
  obtain ⟨g3, e⟩ := gd_some e
  refine V_callV (pc := 4) (bc := 0) (bs := 0) (mc := 0) (ms := 0) (st := [.int v2]) (As := [.int v1, .int (0 : Int32)]) (a := v0) (h' := h) (r := some (.int r2)) dX12_isLevelBy_4 ml_X12_274 (ci := 11) rfl (of_decide_eq_true g3) rfl rfl (Nat.le_of_ble_eq_true rfl) (d' := 1) (by decide) (c_X12_trunksBy (l := x.2.1) v0 v1 (0 : Int32) h g1) ?_
  refine V_iadd (pc := 7) dX12_isLevelBy_7 ?_
  refine V_aload_n (pc := 8) (i := 0) dX12_isLevelBy_8 rfl rfl ?_
  obtain ⟨q4, g5, e⟩ := ob_some e
  refine V_getR (pc := 9) (ci := 11) (k := 1) (b := q4) dX12_isLevelBy_9 fl_X12_13 rfl (of_decide_eq_true g3) g5 ?_
  refine V_bipush (pc := 12) (v := (8 : Int32)) dX12_isLevelBy_12 (by decide) ?_
  obtain ⟨g6, e⟩ := gd_some e
  obtain ⟨g7, e⟩ := gd_some e
  refine V_iald (pc := 14) dX12_isLevelBy_14 (of_decide_eq_true g6) (ix_in g7) ?_
  refine V_ineg (pc := 15) dX12_isLevelBy_15 ?_
  refine V_icmp_lt (pc := 16) (tgt := 41) dX12_isLevelBy_16 (by decide) (fun c16 => ?_) (fun c16 => ?_)
  · rw [if_pos c16] at e
    exact V_pick [] rfl (r_X12_isLevelBy_b41 h e hF)
  · rw [if_neg c16] at e
    refine V_pick [0, 1, 2] rfl ?_
    refine V_iload_n (pc := 19) (i := 2) dX12_isLevelBy_19 rfl rfl ?_
    refine V_aload_n (pc := 20) (i := 0) dX12_isLevelBy_20 rfl rfl ?_
    refine V_iload_n (pc := 21) (i := 1) dX12_isLevelBy_21 rfl rfl ?_
    refine V_iconst (pc := 22) (v := (1 : Int32)) dX12_isLevelBy_22 (by decide) ?_
    obtain ⟨r10, g9, e⟩ := ob_some e
    refine V_callV (pc := 23) (bc := 0) (bs := 0) (mc := 0) (ms := 0) (st := [.int v2]) (As := [.int v1, .int (1 : Int32)]) (a := v0) (h' := h) (r := some (.int r10)) dX12_isLevelBy_23 ml_X12_274 (ci := 11) rfl (of_decide_eq_true g3) rfl rfl (Nat.le_of_ble_eq_true rfl) (d' := 1) (by decide) (c_X12_trunksBy (l := x.2.1) v0 v1 (1 : Int32) h g9) ?_
    refine V_iadd (pc := 26) dX12_isLevelBy_26 ?_
    refine V_aload_n (pc := 27) (i := 0) dX12_isLevelBy_27 rfl rfl ?_
    obtain ⟨q11, g12, e⟩ := ob_some e
    refine V_getR (pc := 28) (ci := 11) (k := 1) (b := q11) dX12_isLevelBy_28 fl_X12_13 rfl (of_decide_eq_true g3) g12 ?_
    refine V_bipush (pc := 31) (v := (8 : Int32)) dX12_isLevelBy_31 (by decide) ?_
    obtain ⟨g13, e⟩ := gd_some e
    obtain ⟨g14, e⟩ := gd_some e
    refine V_iald (pc := 33) dX12_isLevelBy_33 (of_decide_eq_true g13) (ix_in g14) ?_
    refine V_icmp_gt (pc := 34) (tgt := 41) dX12_isLevelBy_34 (by decide) (fun c15 => ?_) (fun c15 => ?_)
    · rw [if_pos c15] at e
      exact V_pick [] rfl (r_X12_isLevelBy_b41 h e hF)
    · rw [if_neg c15] at e
      refine V_pick [] rfl ?_
      refine V_iconst (pc := 37) (v := (1 : Int32)) dX12_isLevelBy_37 (by decide) ?_
      refine V_goto (pc := 38) (tgt := 42) dX12_isLevelBy_38 (by decide) ?_
      exact V_pick [] rfl (r_X12_isLevelBy_b42 (1 : Int32) h e hF)
def F_X12_isLevelBy (v0 : Nat) (v1 : Int32) (v2 : Int32) (h : Hp) : Option Int32 := F_X12_isLevelBy_b0 v0 v1 v2 h
theorem c_X12_isLevelBy {l : Launch} (v0 : Nat) (v1 : Int32) (v2 : Int32) (h : Hp) {r : Int32} (e : F_X12_isLevelBy v0 v1 v2 h = some r) : Ct l yX12_isLevelBy M_X12_isLevelBy (some .boolean) 2 [.ref v0, .int v1, .int v2] h 0 0 (some (.int r)) h :=
  Ct_of rfl rfl (fun q => by cases q) (Nat.le_of_ble_eq_true rfl) (fun x _ hF => V_pick [0, 1, 2] rfl (r_X12_isLevelBy_b0 v0 v1 v2 h e hF))
theorem dX12_isLevel_0 : decode cX12_isLevel 0 = .ok (.aload_n 0, 1) := by decide +kernel
theorem dX12_isLevel_1 : decode cX12_isLevel 1 = .ok (.iconst 0, 1) := by decide +kernel
theorem dX12_isLevel_2 : decode cX12_isLevel 2 = .ok (.aload_n 0, 1) := by decide +kernel
theorem dX12_isLevel_3 : decode cX12_isLevel 3 = .ok (.iconst 0, 1) := by decide +kernel
theorem dX12_isLevel_4 : decode cX12_isLevel 4 = .ok (.invokevirtual 278, 3) := by decide +kernel
theorem dX12_isLevel_7 : decode cX12_isLevel 7 = .ok (.invokevirtual 281, 3) := by decide +kernel
theorem dX12_isLevel_10 : decode cX12_isLevel 10 = .ok (.ifCond .eq 20, 3) := by decide +kernel
theorem dX12_isLevel_13 : decode cX12_isLevel 13 = .ok (.aload_n 0, 1) := by decide +kernel
theorem dX12_isLevel_14 : decode cX12_isLevel 14 = .ok (.iconst 1, 1) := by decide +kernel
theorem dX12_isLevel_15 : decode cX12_isLevel 15 = .ok (.aload_n 0, 1) := by decide +kernel
theorem dX12_isLevel_16 : decode cX12_isLevel 16 = .ok (.iconst 1, 1) := by decide +kernel
theorem dX12_isLevel_17 : decode cX12_isLevel 17 = .ok (.invokevirtual 278, 3) := by decide +kernel
theorem dX12_isLevel_20 : decode cX12_isLevel 20 = .ok (.invokevirtual 281, 3) := by decide +kernel
theorem dX12_isLevel_23 : decode cX12_isLevel 23 = .ok (.ifCond .eq 7, 3) := by decide +kernel
theorem dX12_isLevel_26 : decode cX12_isLevel 26 = .ok (.iconst 1, 1) := by decide +kernel
theorem dX12_isLevel_27 : decode cX12_isLevel 27 = .ok (.goto 4, 3) := by decide +kernel
theorem dX12_isLevel_30 : decode cX12_isLevel 30 = .ok (.iconst 0, 1) := by decide +kernel
theorem dX12_isLevel_31 : decode cX12_isLevel 31 = .ok (.ireturn, 1) := by decide +kernel
set_option maxRecDepth 100000 in
def F_X12_isLevel_b31 (t0 : Int32) (h : Hp) : Option Int32 :=
  gd (decide (t0 = 0 ∨ t0 = 1)) <| some t0
set_option maxHeartbeats 4000000 in
set_option maxRecDepth 100000 in
theorem r_X12_isLevel_b31 (t0 : Int32) (h : Hp) {x : Cx} {r : Int32} (e : F_X12_isLevel_b31 t0 h = some r) (hF : Fin9 M_X12_isLevel x (some .boolean) (some (.int r)) h) : V M_X12_isLevel x 5 31 [] [.int t0] h 0 0 := by
  unfold F_X12_isLevel_b31 at e
  obtain ⟨g6, e⟩ := gd_some e
  cases e
  exact V_zret (pc := 31) dX12_isLevel_31 (z01 (of_decide_eq_true g6)) hF
set_option maxRecDepth 100000 in
def F_X12_isLevel_b30  (h : Hp) : Option Int32 :=
  F_X12_isLevel_b31 (0 : Int32) h
set_option maxHeartbeats 4000000 in
set_option maxRecDepth 100000 in
theorem r_X12_isLevel_b30  (h : Hp) {x : Cx} {r : Int32} (e : F_X12_isLevel_b30  h = some r) (hF : Fin9 M_X12_isLevel x (some .boolean) (some (.int r)) h) : V M_X12_isLevel x 5 30 [] [] h 0 0 := by
  unfold F_X12_isLevel_b30 at e
  refine V_iconst (pc := 30) (v := (0 : Int32)) dX12_isLevel_30 (by decide) ?_
  exact V_pick [] rfl (r_X12_isLevel_b31 (0 : Int32) h e hF)
set_option maxRecDepth 100000 in
def F_X12_isLevel_b0 (v0 : Nat) (h : Hp) : Option Int32 :=
  ob (F_X12_net v0 (0 : Int32) h) fun r2 => gd (decide (kd h v0 = 11)) <| ob (F_X12_isLevelBy v0 (0 : Int32) r2 h) fun r5 => (if r5 = 0 then F_X12_isLevel_b30 h else ob (F_X12_net v0 (1 : Int32) h) fun r8 => ob (F_X12_isLevelBy v0 (1 : Int32) r8 h) fun r10 => (if r10 = 0 then F_X12_isLevel_b30 h else F_X12_isLevel_b31 (1 : Int32) h))
set_option maxHeartbeats 4000000 in
set_option maxRecDepth 100000 in
theorem r_X12_isLevel_b0 (v0 : Nat) (h : Hp) {x : Cx} {r : Int32} (e : F_X12_isLevel_b0 v0 h = some r) (hF : Fin9 M_X12_isLevel x (some .boolean) (some (.int r)) h) : V M_X12_isLevel x 5 0 [(0, .ref v0)] [] h 0 0 := by
  unfold F_X12_isLevel_b0 at e
  refine V_aload_n (pc := 0) (i := 0) dX12_isLevel_0 rfl rfl ?_
  refine V_iconst (pc := 1) (v := (0 : Int32)) dX12_isLevel_1 (by decide) ?_
  refine V_aload_n (pc := 2) (i := 0) dX12_isLevel_2 rfl rfl ?_
  refine V_iconst (pc := 3) (v := (0 : Int32)) dX12_isLevel_3 (by decide) ?_
  obtain ⟨r2, g1, e⟩ := ob_some e
  obtain ⟨g3, e⟩ := gd_some e
  refine V_callV (pc := 4) (bc := 0) (bs := 0) (mc := 0) (ms := 0) (st := [.int (0 : Int32), .ref v0]) (As := [.int (0 : Int32)]) (a := v0) (h' := h) (r := some (.int r2)) dX12_isLevel_4 ml_X12_278 (ci := 11) rfl (of_decide_eq_true g3) rfl rfl (Nat.le_of_ble_eq_true rfl) (d' := 4) (by decide) (c_X12_net (l := x.2.1) v0 (0 : Int32) h g1) ?_
  obtain ⟨r5, g4, e⟩ := ob_some e
  refine V_callV (pc := 7) (bc := 0) (bs := 0) (mc := 0) (ms := 0) (st := []) (As := [.int (0 : Int32), .int r2]) (a := v0) (h' := h) (r := some (.int r5)) dX12_isLevel_7 ml_X12_281 (ci := 11) rfl (of_decide_eq_true g3) rfl rfl (Nat.le_of_ble_eq_true rfl) (d' := 2) (by decide) (c_X12_isLevelBy (l := x.2.1) v0 (0 : Int32) r2 h g4) ?_
  refine V_if_eq (pc := 10) (tgt := 30) dX12_isLevel_10 (by decide) (fun c12 => ?_) (fun c12 => ?_)
  · rw [if_pos c12] at e
    exact V_pick [] rfl (r_X12_isLevel_b30 h e hF)
  · rw [if_neg c12] at e
    refine V_pick [0] rfl ?_
    refine V_aload_n (pc := 13) (i := 0) dX12_isLevel_13 rfl rfl ?_
    refine V_iconst (pc := 14) (v := (1 : Int32)) dX12_isLevel_14 (by decide) ?_
    refine V_aload_n (pc := 15) (i := 0) dX12_isLevel_15 rfl rfl ?_
    refine V_iconst (pc := 16) (v := (1 : Int32)) dX12_isLevel_16 (by decide) ?_
    obtain ⟨r8, g7, e⟩ := ob_some e
    refine V_callV (pc := 17) (bc := 0) (bs := 0) (mc := 0) (ms := 0) (st := [.int (1 : Int32), .ref v0]) (As := [.int (1 : Int32)]) (a := v0) (h' := h) (r := some (.int r8)) dX12_isLevel_17 ml_X12_278 (ci := 11) rfl (of_decide_eq_true g3) rfl rfl (Nat.le_of_ble_eq_true rfl) (d' := 4) (by decide) (c_X12_net (l := x.2.1) v0 (1 : Int32) h g7) ?_
    obtain ⟨r10, g9, e⟩ := ob_some e
    refine V_callV (pc := 20) (bc := 0) (bs := 0) (mc := 0) (ms := 0) (st := []) (As := [.int (1 : Int32), .int r8]) (a := v0) (h' := h) (r := some (.int r10)) dX12_isLevel_20 ml_X12_281 (ci := 11) rfl (of_decide_eq_true g3) rfl rfl (Nat.le_of_ble_eq_true rfl) (d' := 2) (by decide) (c_X12_isLevelBy (l := x.2.1) v0 (1 : Int32) r8 h g9) ?_
    refine V_if_eq (pc := 23) (tgt := 30) dX12_isLevel_23 (by decide) (fun c11 => ?_) (fun c11 => ?_)
    · rw [if_pos c11] at e
      exact V_pick [] rfl (r_X12_isLevel_b30 h e hF)
    · rw [if_neg c11] at e
      refine V_pick [] rfl ?_
      refine V_iconst (pc := 26) (v := (1 : Int32)) dX12_isLevel_26 (by decide) ?_
      refine V_goto (pc := 27) (tgt := 31) dX12_isLevel_27 (by decide) ?_
      exact V_pick [] rfl (r_X12_isLevel_b31 (1 : Int32) h e hF)
def F_X12_isLevel (v0 : Nat) (h : Hp) : Option Int32 := F_X12_isLevel_b0 v0 h
theorem c_X12_isLevel {l : Launch} (v0 : Nat) (h : Hp) {r : Int32} (e : F_X12_isLevel v0 h = some r) : Ct l yX12_isLevel M_X12_isLevel (some .boolean) 5 [.ref v0] h 0 0 (some (.int r)) h :=
  Ct_of rfl rfl (fun q => by cases q) (Nat.le_of_ble_eq_true rfl) (fun x _ hF => V_pick [0] rfl (r_X12_isLevel_b0 v0 h e hF))
theorem dX12_room_0 : decode cX12_room 0 = .ok (.aload_n 0, 1) := by decide +kernel
theorem dX12_room_1 : decode cX12_room 1 = .ok (.iconst 0, 1) := by decide +kernel
theorem dX12_room_2 : decode cX12_room 2 = .ok (.putfield 3, 3) := by decide +kernel
theorem dX12_room_5 : decode cX12_room 5 = .ok (.aload_n 0, 1) := by decide +kernel
theorem dX12_room_6 : decode cX12_room 6 = .ok (.aload_n 0, 1) := by decide +kernel
theorem dX12_room_7 : decode cX12_room 7 = .ok (.iload_n 1, 1) := by decide +kernel
theorem dX12_room_8 : decode cX12_room 8 = .ok (.invokevirtual 250, 3) := by decide +kernel
theorem dX12_room_11 : decode cX12_room 11 = .ok (.iconst 1, 1) := by decide +kernel
theorem dX12_room_12 : decode cX12_room 12 = .ok (.invokevirtual 240, 3) := by decide +kernel
theorem dX12_room_15 : decode cX12_room 15 = .ok (.ifCond .ne 26, 3) := by decide +kernel
theorem dX12_room_18 : decode cX12_room 18 = .ok (.aload_n 0, 1) := by decide +kernel
theorem dX12_room_19 : decode cX12_room 19 = .ok (.iload_n 2, 1) := by decide +kernel
theorem dX12_room_20 : decode cX12_room 20 = .ok (.iconst 0, 1) := by decide +kernel
theorem dX12_room_21 : decode cX12_room 21 = .ok (.bipush 6, 2) := by decide +kernel
theorem dX12_room_23 : decode cX12_room 23 = .ok (.invokestatic 64, 3) := by decide +kernel
theorem dX12_room_26 : decode cX12_room 26 = .ok (.ifCond .ne 7, 3) := by decide +kernel
theorem dX12_room_29 : decode cX12_room 29 = .ok (.iconst 1, 1) := by decide +kernel
theorem dX12_room_30 : decode cX12_room 30 = .ok (.goto 4, 3) := by decide +kernel
theorem dX12_room_33 : decode cX12_room 33 = .ok (.iconst 0, 1) := by decide +kernel
theorem dX12_room_34 : decode cX12_room 34 = .ok (.iconst 2, 1) := by decide +kernel
theorem dX12_room_35 : decode cX12_room 35 = .ok (.invokevirtual 240, 3) := by decide +kernel
theorem dX12_room_38 : decode cX12_room 38 = .ok (.ifCond .eq 5, 3) := by decide +kernel
theorem dX12_room_41 : decode cX12_room 41 = .ok (.iconst 0, 1) := by decide +kernel
theorem dX12_room_42 : decode cX12_room 42 = .ok (.ireturn, 1) := by decide +kernel
theorem dX12_room_43 : decode cX12_room 43 = .ok (.iload_n 2, 1) := by decide +kernel
theorem dX12_room_44 : decode cX12_room 44 = .ok (.iconst 3, 1) := by decide +kernel
theorem dX12_room_45 : decode cX12_room 45 = .ok (.if_icmp .gt 10, 3) := by decide +kernel
theorem dX12_room_48 : decode cX12_room 48 = .ok (.aload_n 0, 1) := by decide +kernel
theorem dX12_room_49 : decode cX12_room 49 = .ok (.iload_n 1, 1) := by decide +kernel
theorem dX12_room_50 : decode cX12_room 50 = .ok (.iload_n 2, 1) := by decide +kernel
theorem dX12_room_51 : decode cX12_room 51 = .ok (.invokevirtual 131, 3) := by decide +kernel
theorem dX12_room_54 : decode cX12_room 54 = .ok (.ireturn, 1) := by decide +kernel
theorem dX12_room_55 : decode cX12_room 55 = .ok (.iload_n 2, 1) := by decide +kernel
theorem dX12_room_56 : decode cX12_room 56 = .ok (.iconst 4, 1) := by decide +kernel
theorem dX12_room_57 : decode cX12_room 57 = .ok (.if_icmp .ne 19, 3) := by decide +kernel
theorem dX12_room_60 : decode cX12_room 60 = .ok (.aload_n 0, 1) := by decide +kernel
theorem dX12_room_61 : decode cX12_room 61 = .ok (.iload_n 1, 1) := by decide +kernel
theorem dX12_room_62 : decode cX12_room 62 = .ok (.iconst 0, 1) := by decide +kernel
theorem dX12_room_63 : decode cX12_room 63 = .ok (.invokevirtual 131, 3) := by decide +kernel
theorem dX12_room_66 : decode cX12_room 66 = .ok (.aload_n 0, 1) := by decide +kernel
theorem dX12_room_67 : decode cX12_room 67 = .ok (.iload_n 1, 1) := by decide +kernel
theorem dX12_room_68 : decode cX12_room 68 = .ok (.iconst 1, 1) := by decide +kernel
theorem dX12_room_69 : decode cX12_room 69 = .ok (.invokevirtual 131, 3) := by decide +kernel
theorem dX12_room_72 : decode cX12_room 72 = .ok (.invokestatic 284, 3) := by decide +kernel
theorem dX12_room_75 : decode cX12_room 75 = .ok (.ireturn, 1) := by decide +kernel
theorem dX12_room_76 : decode cX12_room 76 = .ok (.iconst 0, 1) := by decide +kernel
theorem dX12_room_77 : decode cX12_room 77 = .ok (.istore_n 3, 1) := by decide +kernel
theorem dX12_room_78 : decode cX12_room 78 = .ok (.iconst 0, 1) := by decide +kernel
theorem dX12_room_79 : decode cX12_room 79 = .ok (.istore 4, 2) := by decide +kernel
theorem dX12_room_81 : decode cX12_room 81 = .ok (.iload 4, 2) := by decide +kernel
theorem dX12_room_83 : decode cX12_room 83 = .ok (.aload_n 0, 1) := by decide +kernel
theorem dX12_room_84 : decode cX12_room 84 = .ok (.invokevirtual 68, 3) := by decide +kernel
theorem dX12_room_87 : decode cX12_room 87 = .ok (.if_icmp .ge 32, 3) := by decide +kernel
theorem dX12_room_90 : decode cX12_room 90 = .ok (.iload_n 2, 1) := by decide +kernel
theorem dX12_room_91 : decode cX12_room 91 = .ok (.iconst 5, 1) := by decide +kernel
theorem dX12_room_92 : decode cX12_room 92 = .ok (.if_icmp .ne 27, 3) := by decide +kernel
theorem dX12_room_95 : decode cX12_room 95 = .ok (.iload_n 3, 1) := by decide +kernel
theorem dX12_room_96 : decode cX12_room 96 = .ok (.aload_n 0, 1) := by decide +kernel
theorem dX12_room_97 : decode cX12_room 97 = .ok (.iload 4, 2) := by decide +kernel
theorem dX12_room_99 : decode cX12_room 99 = .ok (.invokevirtual 247, 3) := by decide +kernel
theorem dX12_room_102 : decode cX12_room 102 = .ok (.iload_n 1, 1) := by decide +kernel
theorem dX12_room_103 : decode cX12_room 103 = .ok (.if_icmp .ne 7, 3) := by decide +kernel
theorem dX12_room_106 : decode cX12_room 106 = .ok (.iconst 1, 1) := by decide +kernel
theorem dX12_room_107 : decode cX12_room 107 = .ok (.goto 4, 3) := by decide +kernel
theorem dX12_room_110 : decode cX12_room 110 = .ok (.iconst 0, 1) := by decide +kernel
theorem dX12_room_111 : decode cX12_room 111 = .ok (.iadd, 1) := by decide +kernel
theorem dX12_room_112 : decode cX12_room 112 = .ok (.istore_n 3, 1) := by decide +kernel
theorem dX12_room_113 : decode cX12_room 113 = .ok (.iinc 4 1, 3) := by decide +kernel
theorem dX12_room_116 : decode cX12_room 116 = .ok (.goto (-35), 3) := by decide +kernel
theorem dX12_room_119 : decode cX12_room 119 = .ok (.iconst 0, 1) := by decide +kernel
theorem dX12_room_120 : decode cX12_room 120 = .ok (.istore 4, 2) := by decide +kernel
theorem dX12_room_122 : decode cX12_room 122 = .ok (.iload 4, 2) := by decide +kernel
theorem dX12_room_124 : decode cX12_room 124 = .ok (.aload_n 0, 1) := by decide +kernel
theorem dX12_room_125 : decode cX12_room 125 = .ok (.invokevirtual 71, 3) := by decide +kernel
theorem dX12_room_128 : decode cX12_room 128 = .ok (.if_icmp .ge 34, 3) := by decide +kernel
theorem dX12_room_131 : decode cX12_room 131 = .ok (.iload_n 2, 1) := by decide +kernel
theorem dX12_room_132 : decode cX12_room 132 = .ok (.bipush 6, 2) := by decide +kernel
theorem dX12_room_134 : decode cX12_room 134 = .ok (.if_icmp .ne 28, 3) := by decide +kernel
theorem dX12_room_137 : decode cX12_room 137 = .ok (.iload_n 3, 1) := by decide +kernel
theorem dX12_room_138 : decode cX12_room 138 = .ok (.aload_n 0, 1) := by decide +kernel
theorem dX12_room_139 : decode cX12_room 139 = .ok (.iload 4, 2) := by decide +kernel
theorem dX12_room_141 : decode cX12_room 141 = .ok (.iconst 2, 1) := by decide +kernel
theorem dX12_room_142 : decode cX12_room 142 = .ok (.invokevirtual 265, 3) := by decide +kernel
theorem dX12_room_145 : decode cX12_room 145 = .ok (.iload_n 1, 1) := by decide +kernel
theorem dX12_room_146 : decode cX12_room 146 = .ok (.if_icmp .ne 7, 3) := by decide +kernel
theorem dX12_room_149 : decode cX12_room 149 = .ok (.iconst 1, 1) := by decide +kernel
theorem dX12_room_150 : decode cX12_room 150 = .ok (.goto 4, 3) := by decide +kernel
theorem dX12_room_153 : decode cX12_room 153 = .ok (.iconst 0, 1) := by decide +kernel
theorem dX12_room_154 : decode cX12_room 154 = .ok (.iadd, 1) := by decide +kernel
theorem dX12_room_155 : decode cX12_room 155 = .ok (.istore_n 3, 1) := by decide +kernel
theorem dX12_room_156 : decode cX12_room 156 = .ok (.iinc 4 1, 3) := by decide +kernel
theorem dX12_room_159 : decode cX12_room 159 = .ok (.goto (-37), 3) := by decide +kernel
theorem dX12_room_162 : decode cX12_room 162 = .ok (.iload_n 3, 1) := by decide +kernel
theorem dX12_room_163 : decode cX12_room 163 = .ok (.ireturn, 1) := by decide +kernel
set_option maxRecDepth 100000 in
def F_X12_room_b41  (h : Hp) : Option (Int32 × Hp) :=
  some ((0 : Int32), h)
set_option maxHeartbeats 4000000 in
set_option maxRecDepth 100000 in
theorem r_X12_room_b41  (h : Hp) {x : Cx} {r : Int32} {hz : Hp} (e : F_X12_room_b41  h = some (r, hz)) (hF : Fin9 M_X12_room x (some .int) (some (.int r)) hz) : V M_X12_room x 2 41 [] [] h 0 0 := by
  unfold F_X12_room_b41 at e
  refine V_iconst (pc := 41) (v := (0 : Int32)) dX12_room_41 (by decide) ?_
  cases e
  exact V_iret (pc := 42) dX12_room_42 hF
set_option maxRecDepth 100000 in
def F_X12_room_b111 (v0 : Nat) (v1 : Int32) (v2 : Int32) (v4 : Int32) (t0 : Int32) (t1 : Int32) (h : Hp) : Option ((Int32 × Int32) ⊕ Int32) :=
  some (.inl (t0 + t1, v4 + (1 : Int32)))
set_option maxHeartbeats 4000000 in
set_option maxRecDepth 100000 in
theorem r_X12_room_b111 (v0 : Nat) (v1 : Int32) (v2 : Int32) (v4 : Int32) (t0 : Int32) (t1 : Int32) (h : Hp) {x : Cx} {o : ((Int32 × Int32) ⊕ Int32)} (e : F_X12_room_b111 v0 v1 v2 v4 t0 t1 h = some o) (kI : ∀ z, o = .inl z → V M_X12_room x 2 81 [(0, .ref v0), (1, .int v1), (2, .int v2), (3, .int z.1), (4, .int z.2)] [] h 0 0) (kE119 : ∀ z : Int32, o = .inr z → V M_X12_room x 2 119 [(0, .ref v0), (1, .int v1), (2, .int v2), (3, .int z)] [] h 0 0) : V M_X12_room x 2 111 [(0, .ref v0), (1, .int v1), (2, .int v2), (4, .int v4)] [.int t1, .int t0] h 0 0 := by
  unfold F_X12_room_b111 at e
  refine V_iadd (pc := 111) dX12_room_111 ?_
  refine V_istore_n (pc := 112) (i := 3) (lv' := [(3, .int (t0 + t1)), (0, .ref v0), (1, .int v1), (2, .int v2), (4, .int v4)]) dX12_room_112 rfl (by decide) rfl ?_
  refine V_iinc (pc := 113) (i := 4) (u := v4 + (1 : Int32)) (lv' := [(4, .int (v4 + (1 : Int32))), (3, .int (t0 + t1)), (0, .ref v0), (1, .int v1), (2, .int v2)]) dX12_room_113 rfl rfl (by decide) rfl ?_
  refine V_goto (pc := 116) (tgt := 81) dX12_room_116 (by decide) ?_
  cases e
  exact V_pick [2, 3, 4, 1, 0] rfl (kI (t0 + t1, v4 + (1 : Int32)) rfl)
set_option maxRecDepth 100000 in
def F_X12_room_l81 (v0 : Nat) (v1 : Int32) (v2 : Int32) (v3 : Int32) (v4 : Int32) (h : Hp) : Option ((Int32 × Int32) ⊕ Int32) :=
  ob (F_X12_guests v0 h) fun r14 => gd (decide (kd h v0 = 11)) <| (if r14 ≤ v4 then some (.inr v3) else (if v2 = (5 : Int32) then ob (F_X12_roomOf v0 v4 h) fun r17 => (if r17 = v1 then F_X12_room_b111 v0 v1 v2 v4 v3 (1 : Int32) h else F_X12_room_b111 v0 v1 v2 v4 v3 (0 : Int32) h) else some (.inr v3)))
set_option maxHeartbeats 4000000 in
set_option maxRecDepth 100000 in
theorem r_X12_room_l81 (v0 : Nat) (v1 : Int32) (v2 : Int32) (v3 : Int32) (v4 : Int32) (h : Hp) {x : Cx} {o : ((Int32 × Int32) ⊕ Int32)} (e : F_X12_room_l81 v0 v1 v2 v3 v4 h = some o) (kI : ∀ z, o = .inl z → V M_X12_room x 2 81 [(0, .ref v0), (1, .int v1), (2, .int v2), (3, .int z.1), (4, .int z.2)] [] h 0 0) (kE119 : ∀ z : Int32, o = .inr z → V M_X12_room x 2 119 [(0, .ref v0), (1, .int v1), (2, .int v2), (3, .int z)] [] h 0 0) : V M_X12_room x 2 81 [(0, .ref v0), (1, .int v1), (2, .int v2), (3, .int v3), (4, .int v4)] [] h 0 0 := by
  unfold F_X12_room_l81 at e
  refine V_iload (pc := 81) (i := 4) dX12_room_81 rfl ?_
  refine V_aload_n (pc := 83) (i := 0) dX12_room_83 rfl rfl ?_
  obtain ⟨r14, g13, e⟩ := ob_some e
  obtain ⟨g15, e⟩ := gd_some e
  refine V_callV (pc := 84) (bc := 0) (bs := 0) (mc := 0) (ms := 0) (st := [.int v4]) (As := []) (a := v0) (h' := h) (r := some (.int r14)) dX12_room_84 ml_X12_68 (ci := 11) rfl (of_decide_eq_true g15) rfl rfl (Nat.le_of_ble_eq_true rfl) (d' := 0) (by decide) (c_X12_guests (l := x.2.1) v0 h g13) ?_
  refine V_icmp_ge (pc := 87) (tgt := 119) dX12_room_87 (by decide) (fun c20 => ?_) (fun c20 => ?_)
  · rw [if_pos c20] at e
    cases e
    exact V_pick [0, 1, 2, 3] rfl (kE119 v3 rfl)
  · rw [if_neg c20] at e
    refine V_pick [0, 1, 2, 3, 4] rfl ?_
    refine V_iload_n (pc := 90) (i := 2) dX12_room_90 rfl rfl ?_
    refine V_iconst (pc := 91) (v := (5 : Int32)) dX12_room_91 (by decide) ?_
    refine V_icmp_ne (pc := 92) (tgt := 119) dX12_room_92 (by decide) (fun c19 => ?_) (fun c19 => ?_)
    · rw [if_neg c19] at e
      cases e
      exact V_pick [0, 1, 2, 3] rfl (kE119 v3 rfl)
    · rw [if_pos c19] at e
      refine V_pick [0, 1, 2, 3, 4] rfl ?_
      refine V_iload_n (pc := 95) (i := 3) dX12_room_95 rfl rfl ?_
      refine V_aload_n (pc := 96) (i := 0) dX12_room_96 rfl rfl ?_
      refine V_iload (pc := 97) (i := 4) dX12_room_97 rfl ?_
      obtain ⟨r17, g16, e⟩ := ob_some e
      refine V_callV (pc := 99) (bc := 0) (bs := 0) (mc := 0) (ms := 0) (st := [.int v3]) (As := [.int v4]) (a := v0) (h' := h) (r := some (.int r17)) dX12_room_99 ml_X12_247 (ci := 11) rfl (of_decide_eq_true g15) rfl rfl (Nat.le_of_ble_eq_true rfl) (d' := 0) (by decide) (c_X12_roomOf (l := x.2.1) v0 v4 h g16) ?_
      refine V_iload_n (pc := 102) (i := 1) dX12_room_102 rfl rfl ?_
      refine V_icmp_ne (pc := 103) (tgt := 110) dX12_room_103 (by decide) (fun c18 => ?_) (fun c18 => ?_)
      · rw [if_neg c18] at e
        refine V_pick [0, 1, 2, 4] rfl ?_
        refine V_iconst (pc := 110) (v := (0 : Int32)) dX12_room_110 (by decide) ?_
        exact V_pick [0, 1, 2, 3] rfl (r_X12_room_b111 v0 v1 v2 v4 v3 (0 : Int32) h e kI kE119)
      · rw [if_pos c18] at e
        refine V_pick [0, 1, 2, 4] rfl ?_
        refine V_iconst (pc := 106) (v := (1 : Int32)) dX12_room_106 (by decide) ?_
        refine V_goto (pc := 107) (tgt := 111) dX12_room_107 (by decide) ?_
        exact V_pick [0, 1, 2, 3] rfl (r_X12_room_b111 v0 v1 v2 v4 v3 (1 : Int32) h e kI kE119)
set_option maxRecDepth 100000 in
def F_X12_room_b154 (v0 : Nat) (v1 : Int32) (v2 : Int32) (v4 : Int32) (t0 : Int32) (t1 : Int32) (h : Hp) : Option ((Int32 × Int32) ⊕ Int32) :=
  some (.inl (t0 + t1, v4 + (1 : Int32)))
set_option maxHeartbeats 4000000 in
set_option maxRecDepth 100000 in
theorem r_X12_room_b154 (v0 : Nat) (v1 : Int32) (v2 : Int32) (v4 : Int32) (t0 : Int32) (t1 : Int32) (h : Hp) {x : Cx} {o : ((Int32 × Int32) ⊕ Int32)} (e : F_X12_room_b154 v0 v1 v2 v4 t0 t1 h = some o) (kI : ∀ z, o = .inl z → V M_X12_room x 2 122 [(0, .ref v0), (1, .int v1), (2, .int v2), (3, .int z.1), (4, .int z.2)] [] h 0 0) (kE162 : ∀ z : Int32, o = .inr z → V M_X12_room x 2 162 [(3, .int z)] [] h 0 0) : V M_X12_room x 2 154 [(0, .ref v0), (1, .int v1), (2, .int v2), (4, .int v4)] [.int t1, .int t0] h 0 0 := by
  unfold F_X12_room_b154 at e
  refine V_iadd (pc := 154) dX12_room_154 ?_
  refine V_istore_n (pc := 155) (i := 3) (lv' := [(3, .int (t0 + t1)), (0, .ref v0), (1, .int v1), (2, .int v2), (4, .int v4)]) dX12_room_155 rfl (by decide) rfl ?_
  refine V_iinc (pc := 156) (i := 4) (u := v4 + (1 : Int32)) (lv' := [(4, .int (v4 + (1 : Int32))), (3, .int (t0 + t1)), (0, .ref v0), (1, .int v1), (2, .int v2)]) dX12_room_156 rfl rfl (by decide) rfl ?_
  refine V_goto (pc := 159) (tgt := 122) dX12_room_159 (by decide) ?_
  cases e
  exact V_pick [2, 3, 4, 1, 0] rfl (kI (t0 + t1, v4 + (1 : Int32)) rfl)
set_option maxRecDepth 100000 in
def F_X12_room_l122 (v0 : Nat) (v1 : Int32) (v2 : Int32) (v3 : Int32) (v4 : Int32) (h : Hp) : Option ((Int32 × Int32) ⊕ Int32) :=
  ob (F_X12_trunks v0 h) fun r23 => gd (decide (kd h v0 = 11)) <| (if r23 ≤ v4 then some (.inr v3) else (if v2 = (6 : Int32) then ob (F_X12_ofTrunk v0 v4 (2 : Int32) h) fun r26 => (if r26 = v1 then F_X12_room_b154 v0 v1 v2 v4 v3 (1 : Int32) h else F_X12_room_b154 v0 v1 v2 v4 v3 (0 : Int32) h) else some (.inr v3)))
set_option maxHeartbeats 4000000 in
set_option maxRecDepth 100000 in
theorem r_X12_room_l122 (v0 : Nat) (v1 : Int32) (v2 : Int32) (v3 : Int32) (v4 : Int32) (h : Hp) {x : Cx} {o : ((Int32 × Int32) ⊕ Int32)} (e : F_X12_room_l122 v0 v1 v2 v3 v4 h = some o) (kI : ∀ z, o = .inl z → V M_X12_room x 2 122 [(0, .ref v0), (1, .int v1), (2, .int v2), (3, .int z.1), (4, .int z.2)] [] h 0 0) (kE162 : ∀ z : Int32, o = .inr z → V M_X12_room x 2 162 [(3, .int z)] [] h 0 0) : V M_X12_room x 2 122 [(0, .ref v0), (1, .int v1), (2, .int v2), (3, .int v3), (4, .int v4)] [] h 0 0 := by
  unfold F_X12_room_l122 at e
  refine V_iload (pc := 122) (i := 4) dX12_room_122 rfl ?_
  refine V_aload_n (pc := 124) (i := 0) dX12_room_124 rfl rfl ?_
  obtain ⟨r23, g22, e⟩ := ob_some e
  obtain ⟨g24, e⟩ := gd_some e
  refine V_callV (pc := 125) (bc := 0) (bs := 0) (mc := 0) (ms := 0) (st := [.int v4]) (As := []) (a := v0) (h' := h) (r := some (.int r23)) dX12_room_125 ml_X12_71 (ci := 11) rfl (of_decide_eq_true g24) rfl rfl (Nat.le_of_ble_eq_true rfl) (d' := 0) (by decide) (c_X12_trunks (l := x.2.1) v0 h g22) ?_
  refine V_icmp_ge (pc := 128) (tgt := 162) dX12_room_128 (by decide) (fun c29 => ?_) (fun c29 => ?_)
  · rw [if_pos c29] at e
    cases e
    exact V_pick [3] rfl (kE162 v3 rfl)
  · rw [if_neg c29] at e
    refine V_pick [0, 1, 2, 3, 4] rfl ?_
    refine V_iload_n (pc := 131) (i := 2) dX12_room_131 rfl rfl ?_
    refine V_bipush (pc := 132) (v := (6 : Int32)) dX12_room_132 (by decide) ?_
    refine V_icmp_ne (pc := 134) (tgt := 162) dX12_room_134 (by decide) (fun c28 => ?_) (fun c28 => ?_)
    · rw [if_neg c28] at e
      cases e
      exact V_pick [3] rfl (kE162 v3 rfl)
    · rw [if_pos c28] at e
      refine V_pick [0, 1, 2, 3, 4] rfl ?_
      refine V_iload_n (pc := 137) (i := 3) dX12_room_137 rfl rfl ?_
      refine V_aload_n (pc := 138) (i := 0) dX12_room_138 rfl rfl ?_
      refine V_iload (pc := 139) (i := 4) dX12_room_139 rfl ?_
      refine V_iconst (pc := 141) (v := (2 : Int32)) dX12_room_141 (by decide) ?_
      obtain ⟨r26, g25, e⟩ := ob_some e
      refine V_callV (pc := 142) (bc := 0) (bs := 0) (mc := 0) (ms := 0) (st := [.int v3]) (As := [.int v4, .int (2 : Int32)]) (a := v0) (h' := h) (r := some (.int r26)) dX12_room_142 ml_X12_265 (ci := 11) rfl (of_decide_eq_true g24) rfl rfl (Nat.le_of_ble_eq_true rfl) (d' := 0) (by decide) (c_X12_ofTrunk (l := x.2.1) v0 v4 (2 : Int32) h g25) ?_
      refine V_iload_n (pc := 145) (i := 1) dX12_room_145 rfl rfl ?_
      refine V_icmp_ne (pc := 146) (tgt := 153) dX12_room_146 (by decide) (fun c27 => ?_) (fun c27 => ?_)
      · rw [if_neg c27] at e
        refine V_pick [0, 1, 2, 4] rfl ?_
        refine V_iconst (pc := 153) (v := (0 : Int32)) dX12_room_153 (by decide) ?_
        exact V_pick [0, 1, 2, 3] rfl (r_X12_room_b154 v0 v1 v2 v4 v3 (0 : Int32) h e kI kE162)
      · rw [if_pos c27] at e
        refine V_pick [0, 1, 2, 4] rfl ?_
        refine V_iconst (pc := 149) (v := (1 : Int32)) dX12_room_149 (by decide) ?_
        refine V_goto (pc := 150) (tgt := 154) dX12_room_150 (by decide) ?_
        exact V_pick [0, 1, 2, 3] rfl (r_X12_room_b154 v0 v1 v2 v4 v3 (1 : Int32) h e kI kE162)
set_option maxRecDepth 100000 in
def F_X12_room_b162 (v3 : Int32) (h : Hp) : Option (Int32 × Hp) :=
  some (v3, h)
set_option maxHeartbeats 4000000 in
set_option maxRecDepth 100000 in
theorem r_X12_room_b162 (v3 : Int32) (h : Hp) {x : Cx} {r : Int32} {hz : Hp} (e : F_X12_room_b162 v3 h = some (r, hz)) (hF : Fin9 M_X12_room x (some .int) (some (.int r)) hz) : V M_X12_room x 2 162 [(3, .int v3)] [] h 0 0 := by
  unfold F_X12_room_b162 at e
  refine V_iload_n (pc := 162) (i := 3) dX12_room_162 rfl rfl ?_
  cases e
  exact V_iret (pc := 163) dX12_room_163 hF
set_option maxRecDepth 100000 in
def F_X12_room_b119 (v0 : Nat) (v1 : Int32) (v2 : Int32) (v3 : Int32) (h : Hp) : Option (Int32 × Hp) :=
  ob (iter (fun z : Int32 × Int32 => F_X12_room_l122 v0 v1 v2 z.1 z.2 h) FU (v3, (0 : Int32))) (fun w30 => F_X12_room_b162 w30 h)
set_option maxHeartbeats 4000000 in
set_option maxRecDepth 100000 in
theorem r_X12_room_b119 (v0 : Nat) (v1 : Int32) (v2 : Int32) (v3 : Int32) (h : Hp) {x : Cx} {r : Int32} {hz : Hp} (e : F_X12_room_b119 v0 v1 v2 v3 h = some (r, hz)) (hF : Fin9 M_X12_room x (some .int) (some (.int r)) hz) : V M_X12_room x 2 119 [(0, .ref v0), (1, .int v1), (2, .int v2), (3, .int v3)] [] h 0 0 := by
  unfold F_X12_room_b119 at e
  refine V_iconst (pc := 119) (v := (0 : Int32)) dX12_room_119 (by decide) ?_
  refine V_istore (pc := 120) (i := 4) (lv' := [(4, .int (0 : Int32)), (0, .ref v0), (1, .int v1), (2, .int v2), (3, .int v3)]) dX12_room_120 (by decide) rfl ?_
  refine V_pick [1, 2, 3, 4, 0] rfl ?_
  obtain ⟨y31, g32, e⟩ := ob_some e
  refine iter_V (P := fun z : Int32 × Int32 => V M_X12_room x 2 122 [(0, .ref v0), (1, .int v1), (2, .int v2), (3, .int z.1), (4, .int z.2)] [] h 0 0) (E := fun z : Int32 => V M_X12_room x 2 162 [(3, .int z)] [] h 0 0) (fun z o e9 k1 k2 => r_X12_room_l122 v0 v1 v2 z.1 z.2 h e9 (fun z hz9 => k1 z hz9) (fun z hz9 => k2 _ hz9)) _ _ _ g32 ?_
  clear g32
  obtain ⟨w30, rfl⟩ : ∃ q, q = y31 := ⟨_, rfl⟩
  replace e : (F_X12_room_b162 w30 h) = some (r, hz) := e
  show V M_X12_room x 2 162 [(3, .int w30)] [] h 0 0
  exact V_pick [0] rfl (r_X12_room_b162 w30 h e hF)
set_option maxRecDepth 100000 in
def F_X12_room_b34 (v0 : Nat) (v1 : Int32) (v2 : Int32) (t0 : Nat) (t1 : Int32) (h : Hp) : Option (Int32 × Hp) :=
  ob2 (F_X12_throwsIf t0 t1 (2 : Int32) h) fun r10 h11 => gd (decide (kd h t0 = 11)) <| (if r10 = 0 then (if (3 : Int32) < v2 then (if v2 = (4 : Int32) then ob (F_X12_ofRoom v0 v1 (0 : Int32) h11) fun r36 => gd (decide (kd h11 v0 = 11)) <| ob (F_X12_ofRoom v0 v1 (1 : Int32) h11) fun r39 => ob (F_X12_farOf r36 r39 h11) fun r41 => some (r41, h11) else ob (iter (fun z : Int32 × Int32 => F_X12_room_l81 v0 v1 v2 z.1 z.2 h11) FU ((0 : Int32), (0 : Int32))) (fun w21 => F_X12_room_b119 v0 v1 v2 w21 h11)) else ob (F_X12_ofRoom v0 v1 v2 h11) fun r44 => gd (decide (kd h11 v0 = 11)) <| some (r44, h11)) else F_X12_room_b41 h11)
set_option maxHeartbeats 4000000 in
set_option maxRecDepth 100000 in
theorem r_X12_room_b34 (v0 : Nat) (v1 : Int32) (v2 : Int32) (t0 : Nat) (t1 : Int32) (h : Hp) {x : Cx} {r : Int32} {hz : Hp} (e : F_X12_room_b34 v0 v1 v2 t0 t1 h = some (r, hz)) (hF : Fin9 M_X12_room x (some .int) (some (.int r)) hz) : V M_X12_room x 2 34 [(0, .ref v0), (1, .int v1), (2, .int v2)] [.int t1, .ref t0] h 0 0 := by
  unfold F_X12_room_b34 at e
  refine V_iconst (pc := 34) (v := (2 : Int32)) dX12_room_34 (by decide) ?_
  obtain ⟨r10, h11, g9, e⟩ := ob2_some e
  obtain ⟨g12, e⟩ := gd_some e
  refine V_callV (pc := 35) (bc := 0) (bs := 0) (mc := 0) (ms := 0) (st := []) (As := [.int t1, .int (2 : Int32)]) (a := t0) (h' := h11) (r := some (.int r10)) dX12_room_35 ml_X12_240 (ci := 11) rfl (of_decide_eq_true g12) rfl rfl (Nat.le_of_ble_eq_true rfl) (d' := 0) (by decide) (c_X12_throwsIf (l := x.2.1) t0 t1 (2 : Int32) h g9) ?_
  refine V_if_eq (pc := 38) (tgt := 43) dX12_room_38 (by decide) (fun c47 => ?_) (fun c47 => ?_)
  · rw [if_pos c47] at e
    refine V_pick [0, 1, 2] rfl ?_
    refine V_iload_n (pc := 43) (i := 2) dX12_room_43 rfl rfl ?_
    refine V_iconst (pc := 44) (v := (3 : Int32)) dX12_room_44 (by decide) ?_
    refine V_icmp_gt (pc := 45) (tgt := 55) dX12_room_45 (by decide) (fun c46 => ?_) (fun c46 => ?_)
    · rw [if_pos c46] at e
      refine V_pick [0, 1, 2] rfl ?_
      refine V_iload_n (pc := 55) (i := 2) dX12_room_55 rfl rfl ?_
      refine V_iconst (pc := 56) (v := (4 : Int32)) dX12_room_56 (by decide) ?_
      refine V_icmp_ne (pc := 57) (tgt := 76) dX12_room_57 (by decide) (fun c42 => ?_) (fun c42 => ?_)
      · rw [if_neg c42] at e
        refine V_pick [0, 1, 2] rfl ?_
        refine V_iconst (pc := 76) (v := (0 : Int32)) dX12_room_76 (by decide) ?_
        refine V_istore_n (pc := 77) (i := 3) (lv' := [(3, .int (0 : Int32)), (0, .ref v0), (1, .int v1), (2, .int v2)]) dX12_room_77 rfl (by decide) rfl ?_
        refine V_iconst (pc := 78) (v := (0 : Int32)) dX12_room_78 (by decide) ?_
        refine V_istore (pc := 79) (i := 4) (lv' := [(4, .int (0 : Int32)), (3, .int (0 : Int32)), (0, .ref v0), (1, .int v1), (2, .int v2)]) dX12_room_79 (by decide) rfl ?_
        refine V_pick [2, 3, 4, 1, 0] rfl ?_
        obtain ⟨y33, g34, e⟩ := ob_some e
        refine iter_V (P := fun z : Int32 × Int32 => V M_X12_room x 2 81 [(0, .ref v0), (1, .int v1), (2, .int v2), (3, .int z.1), (4, .int z.2)] [] h11 0 0) (E := fun z : Int32 => V M_X12_room x 2 119 [(0, .ref v0), (1, .int v1), (2, .int v2), (3, .int z)] [] h11 0 0) (fun z o e9 k1 k2 => r_X12_room_l81 v0 v1 v2 z.1 z.2 h11 e9 (fun z hz9 => k1 z hz9) (fun z hz9 => k2 _ hz9)) _ _ _ g34 ?_
        clear g34
        obtain ⟨w21, rfl⟩ : ∃ q, q = y33 := ⟨_, rfl⟩
        replace e : (F_X12_room_b119 v0 v1 v2 w21 h11) = some (r, hz) := e
        show V M_X12_room x 2 119 [(0, .ref v0), (1, .int v1), (2, .int v2), (3, .int w21)] [] h11 0 0
        exact V_pick [0, 1, 2, 3] rfl (r_X12_room_b119 v0 v1 v2 w21 h11 e hF)
      · rw [if_pos c42] at e
        refine V_pick [0, 1] rfl ?_
        refine V_aload_n (pc := 60) (i := 0) dX12_room_60 rfl rfl ?_
        refine V_iload_n (pc := 61) (i := 1) dX12_room_61 rfl rfl ?_
        refine V_iconst (pc := 62) (v := (0 : Int32)) dX12_room_62 (by decide) ?_
        obtain ⟨r36, g35, e⟩ := ob_some e
        obtain ⟨g37, e⟩ := gd_some e
        refine V_callV (pc := 63) (bc := 0) (bs := 0) (mc := 0) (ms := 0) (st := []) (As := [.int v1, .int (0 : Int32)]) (a := v0) (h' := h11) (r := some (.int r36)) dX12_room_63 ml_X12_131 (ci := 11) rfl (of_decide_eq_true g37) rfl rfl (Nat.le_of_ble_eq_true rfl) (d' := 0) (by decide) (c_X12_ofRoom (l := x.2.1) v0 v1 (0 : Int32) h11 g35) ?_
        refine V_aload_n (pc := 66) (i := 0) dX12_room_66 rfl rfl ?_
        refine V_iload_n (pc := 67) (i := 1) dX12_room_67 rfl rfl ?_
        refine V_iconst (pc := 68) (v := (1 : Int32)) dX12_room_68 (by decide) ?_
        obtain ⟨r39, g38, e⟩ := ob_some e
        refine V_callV (pc := 69) (bc := 0) (bs := 0) (mc := 0) (ms := 0) (st := [.int r36]) (As := [.int v1, .int (1 : Int32)]) (a := v0) (h' := h11) (r := some (.int r39)) dX12_room_69 ml_X12_131 (ci := 11) rfl (of_decide_eq_true g37) rfl rfl (Nat.le_of_ble_eq_true rfl) (d' := 0) (by decide) (c_X12_ofRoom (l := x.2.1) v0 v1 (1 : Int32) h11 g38) ?_
        obtain ⟨r41, g40, e⟩ := ob_some e
        refine V_callS (pc := 72) (bc := 0) (bs := 0) (mc := 0) (ms := 0) (st := []) (As := [.int r36, .int r39]) (h' := h11) (r := some (.int r41)) dX12_room_72 ml_X12_284 rfl rfl (Nat.le_of_ble_eq_true rfl) (d' := 1) (by decide) (c_X12_farOf (l := x.2.1) r36 r39 h11 g40) ?_
        cases e
        exact V_iret (pc := 75) dX12_room_75 hF
    · rw [if_neg c46] at e
      refine V_pick [0, 1, 2] rfl ?_
      refine V_aload_n (pc := 48) (i := 0) dX12_room_48 rfl rfl ?_
      refine V_iload_n (pc := 49) (i := 1) dX12_room_49 rfl rfl ?_
      refine V_iload_n (pc := 50) (i := 2) dX12_room_50 rfl rfl ?_
      obtain ⟨r44, g43, e⟩ := ob_some e
      obtain ⟨g45, e⟩ := gd_some e
      refine V_callV (pc := 51) (bc := 0) (bs := 0) (mc := 0) (ms := 0) (st := []) (As := [.int v1, .int v2]) (a := v0) (h' := h11) (r := some (.int r44)) dX12_room_51 ml_X12_131 (ci := 11) rfl (of_decide_eq_true g45) rfl rfl (Nat.le_of_ble_eq_true rfl) (d' := 0) (by decide) (c_X12_ofRoom (l := x.2.1) v0 v1 v2 h11 g43) ?_
      cases e
      exact V_iret (pc := 54) dX12_room_54 hF
  · rw [if_neg c47] at e
    exact V_pick [] rfl (r_X12_room_b41 h11 e hF)
set_option maxRecDepth 100000 in
def F_X12_room_b0 (v0 : Nat) (v1 : Int32) (v2 : Int32) (h : Hp) : Option (Int32 × Hp) :=
  gd (decide (kd h v0 = 11)) <| ob (F_X12_noRoom v0 v1 (setI h v0 0 (0 : Int32))) fun r3 => ob2 (F_X12_throwsIf v0 r3 (1 : Int32) (setI h v0 0 (0 : Int32))) fun r5 h6 => (if r5 = 0 then ob (F_X12_in v2 (0 : Int32) (6 : Int32) h6) fun r8 => (if r8 = 0 then F_X12_room_b34 v0 v1 v2 v0 (1 : Int32) h6 else F_X12_room_b34 v0 v1 v2 v0 (0 : Int32) h6) else F_X12_room_b41 h6)
set_option maxHeartbeats 4000000 in
set_option maxRecDepth 100000 in
theorem r_X12_room_b0 (v0 : Nat) (v1 : Int32) (v2 : Int32) (h : Hp) {x : Cx} {r : Int32} {hz : Hp} (e : F_X12_room_b0 v0 v1 v2 h = some (r, hz)) (hF : Fin9 M_X12_room x (some .int) (some (.int r)) hz) : V M_X12_room x 2 0 [(0, .ref v0), (1, .int v1), (2, .int v2)] [] h 0 0 := by
  unfold F_X12_room_b0 at e
  refine V_aload_n (pc := 0) (i := 0) dX12_room_0 rfl rfl ?_
  refine V_iconst (pc := 1) (v := (0 : Int32)) dX12_room_1 (by decide) ?_
  obtain ⟨g1, e⟩ := gd_some e
  refine V_putI (pc := 2) (ci := 11) (k := 0) dX12_room_2 fp_X12_3 rfl (of_decide_eq_true g1) ?_
  refine V_aload_n (pc := 5) (i := 0) dX12_room_5 rfl rfl ?_
  refine V_aload_n (pc := 6) (i := 0) dX12_room_6 rfl rfl ?_
  refine V_iload_n (pc := 7) (i := 1) dX12_room_7 rfl rfl ?_
  obtain ⟨r3, g2, e⟩ := ob_some e
  refine V_callV (pc := 8) (bc := 0) (bs := 0) (mc := 0) (ms := 0) (st := [.ref v0]) (As := [.int v1]) (a := v0) (h' := (setI h v0 0 (0 : Int32))) (r := some (.int r3)) dX12_room_8 ml_X12_250 (ci := 11) rfl (kd_sI (of_decide_eq_true g1)) rfl rfl (Nat.le_of_ble_eq_true rfl) (d' := 1) (by decide) (c_X12_noRoom (l := x.2.1) v0 v1 (setI h v0 0 (0 : Int32)) g2) ?_
  refine V_iconst (pc := 11) (v := (1 : Int32)) dX12_room_11 (by decide) ?_
  obtain ⟨r5, h6, g4, e⟩ := ob2_some e
  refine V_callV (pc := 12) (bc := 0) (bs := 0) (mc := 0) (ms := 0) (st := []) (As := [.int r3, .int (1 : Int32)]) (a := v0) (h' := h6) (r := some (.int r5)) dX12_room_12 ml_X12_240 (ci := 11) rfl (kd_sI (of_decide_eq_true g1)) rfl rfl (Nat.le_of_ble_eq_true rfl) (d' := 0) (by decide) (c_X12_throwsIf (l := x.2.1) v0 r3 (1 : Int32) (setI h v0 0 (0 : Int32)) g4) ?_
  refine V_if_ne (pc := 15) (tgt := 41) dX12_room_15 (by decide) (fun c49 => ?_) (fun c49 => ?_)
  · rw [if_neg c49] at e
    exact V_pick [] rfl (r_X12_room_b41 h6 e hF)
  · rw [if_pos c49] at e
    refine V_pick [0, 1, 2] rfl ?_
    refine V_aload_n (pc := 18) (i := 0) dX12_room_18 rfl rfl ?_
    refine V_iload_n (pc := 19) (i := 2) dX12_room_19 rfl rfl ?_
    refine V_iconst (pc := 20) (v := (0 : Int32)) dX12_room_20 (by decide) ?_
    refine V_bipush (pc := 21) (v := (6 : Int32)) dX12_room_21 (by decide) ?_
    obtain ⟨r8, g7, e⟩ := ob_some e
    refine V_callS (pc := 23) (bc := 0) (bs := 0) (mc := 0) (ms := 0) (st := [.ref v0]) (As := [.int v2, .int (0 : Int32), .int (6 : Int32)]) (h' := h6) (r := some (.int r8)) dX12_room_23 ml_X12_64 rfl rfl (Nat.le_of_ble_eq_true rfl) (d' := 0) (by decide) (c_X12_in (l := x.2.1) v2 (0 : Int32) (6 : Int32) h6 g7) ?_
    refine V_if_ne (pc := 26) (tgt := 33) dX12_room_26 (by decide) (fun c48 => ?_) (fun c48 => ?_)
    · rw [if_neg c48] at e
      refine V_pick [0, 1, 2] rfl ?_
      refine V_iconst (pc := 33) (v := (0 : Int32)) dX12_room_33 (by decide) ?_
      exact V_pick [0, 1, 2] rfl (r_X12_room_b34 v0 v1 v2 v0 (0 : Int32) h6 e hF)
    · rw [if_pos c48] at e
      refine V_pick [0, 1, 2] rfl ?_
      refine V_iconst (pc := 29) (v := (1 : Int32)) dX12_room_29 (by decide) ?_
      refine V_goto (pc := 30) (tgt := 34) dX12_room_30 (by decide) ?_
      exact V_pick [0, 1, 2] rfl (r_X12_room_b34 v0 v1 v2 v0 (1 : Int32) h6 e hF)
def F_X12_room (v0 : Nat) (v1 : Int32) (v2 : Int32) (h : Hp) : Option (Int32 × Hp) := F_X12_room_b0 v0 v1 v2 h
theorem c_X12_room {l : Launch} (v0 : Nat) (v1 : Int32) (v2 : Int32) (h : Hp) {r : Int32} {hz : Hp} (e : F_X12_room v0 v1 v2 h = some (r, hz)) : Ct l yX12_room M_X12_room (some .int) 2 [.ref v0, .int v1, .int v2] h 0 0 (some (.int r)) hz :=
  Ct_of rfl rfl (fun q => by cases q) (Nat.le_of_ble_eq_true rfl) (fun x _ hF => V_pick [0, 1, 2] rfl (r_X12_room_b0 v0 v1 v2 h e hF))

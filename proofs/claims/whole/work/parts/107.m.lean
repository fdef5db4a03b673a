theorem dX12_isUnnoticed_0 : decode cX12_isUnnoticed 0 = .ok (.iload_n 3, 1) := by decide +kernel
theorem dX12_isUnnoticed_1 : decode cX12_isUnnoticed 1 = .ok (.aload_n 0, 1) := by decide +kernel
theorem dX12_isUnnoticed_2 : decode cX12_isUnnoticed 2 = .ok (.iload_n 1, 1) := by decide +kernel
theorem dX12_isUnnoticed_3 : decode cX12_isUnnoticed 3 = .ok (.invokevirtual 247, 3) := by decide +kernel
theorem dX12_isUnnoticed_6 : decode cX12_isUnnoticed 6 = .ok (.if_icmp .ne 15, 3) := by decide +kernel
theorem dX12_isUnnoticed_9 : decode cX12_isUnnoticed 9 = .ok (.iload 4, 2) := by decide +kernel
theorem dX12_isUnnoticed_11 : decode cX12_isUnnoticed 11 = .ok (.aload_n 0, 1) := by decide +kernel
theorem dX12_isUnnoticed_12 : decode cX12_isUnnoticed 12 = .ok (.iload_n 2, 1) := by decide +kernel
theorem dX12_isUnnoticed_13 : decode cX12_isUnnoticed 13 = .ok (.invokevirtual 247, 3) := by decide +kernel
theorem dX12_isUnnoticed_16 : decode cX12_isUnnoticed 16 = .ok (.if_icmp .ne 5, 3) := by decide +kernel
theorem dX12_isUnnoticed_19 : decode cX12_isUnnoticed 19 = .ok (.iconst 0, 1) := by decide +kernel
theorem dX12_isUnnoticed_20 : decode cX12_isUnnoticed 20 = .ok (.ireturn, 1) := by decide +kernel
theorem dX12_isUnnoticed_21 : decode cX12_isUnnoticed 21 = .ok (.iconst 1, 1) := by decide +kernel
theorem dX12_isUnnoticed_22 : decode cX12_isUnnoticed 22 = .ok (.istore 5, 2) := by decide +kernel
theorem dX12_isUnnoticed_24 : decode cX12_isUnnoticed 24 = .ok (.iconst 0, 1) := by decide +kernel
theorem dX12_isUnnoticed_25 : decode cX12_isUnnoticed 25 = .ok (.istore 6, 2) := by decide +kernel
theorem dX12_isUnnoticed_27 : decode cX12_isUnnoticed 27 = .ok (.iload 6, 2) := by decide +kernel
theorem dX12_isUnnoticed_29 : decode cX12_isUnnoticed 29 = .ok (.iconst 1, 1) := by decide +kernel
theorem dX12_isUnnoticed_30 : decode cX12_isUnnoticed 30 = .ok (.if_icmp .gt 76, 3) := by decide +kernel
theorem dX12_isUnnoticed_33 : decode cX12_isUnnoticed 33 = .ok (.iload 5, 2) := by decide +kernel
theorem dX12_isUnnoticed_35 : decode cX12_isUnnoticed 35 = .ok (.ifCond .eq 62, 3) := by decide +kernel
theorem dX12_isUnnoticed_38 : decode cX12_isUnnoticed 38 = .ok (.aload_n 0, 1) := by decide +kernel
theorem dX12_isUnnoticed_39 : decode cX12_isUnnoticed 39 = .ok (.iload_n 1, 1) := by decide +kernel
theorem dX12_isUnnoticed_40 : decode cX12_isUnnoticed 40 = .ok (.invokevirtual 256, 3) := by decide +kernel
theorem dX12_isUnnoticed_43 : decode cX12_isUnnoticed 43 = .ok (.aload_n 0, 1) := by decide +kernel
theorem dX12_isUnnoticed_44 : decode cX12_isUnnoticed 44 = .ok (.iload_n 3, 1) := by decide +kernel
theorem dX12_isUnnoticed_45 : decode cX12_isUnnoticed 45 = .ok (.iload 6, 2) := by decide +kernel
theorem dX12_isUnnoticed_47 : decode cX12_isUnnoticed 47 = .ok (.invokevirtual 131, 3) := by decide +kernel
theorem dX12_isUnnoticed_50 : decode cX12_isUnnoticed 50 = .ok (.aload_n 0, 1) := by decide +kernel
theorem dX12_isUnnoticed_51 : decode cX12_isUnnoticed 51 = .ok (.aload_n 0, 1) := by decide +kernel
theorem dX12_isUnnoticed_52 : decode cX12_isUnnoticed 52 = .ok (.iload_n 1, 1) := by decide +kernel
theorem dX12_isUnnoticed_53 : decode cX12_isUnnoticed 53 = .ok (.invokevirtual 247, 3) := by decide +kernel
theorem dX12_isUnnoticed_56 : decode cX12_isUnnoticed 56 = .ok (.iload 6, 2) := by decide +kernel
theorem dX12_isUnnoticed_58 : decode cX12_isUnnoticed 58 = .ok (.invokevirtual 131, 3) := by decide +kernel
theorem dX12_isUnnoticed_61 : decode cX12_isUnnoticed 61 = .ok (.isub, 1) := by decide +kernel
theorem dX12_isUnnoticed_62 : decode cX12_isUnnoticed 62 = .ok (.imul, 1) := by decide +kernel
theorem dX12_isUnnoticed_63 : decode cX12_isUnnoticed 63 = .ok (.aload_n 0, 1) := by decide +kernel
theorem dX12_isUnnoticed_64 : decode cX12_isUnnoticed 64 = .ok (.iload_n 2, 1) := by decide +kernel
theorem dX12_isUnnoticed_65 : decode cX12_isUnnoticed 65 = .ok (.invokevirtual 256, 3) := by decide +kernel
theorem dX12_isUnnoticed_68 : decode cX12_isUnnoticed 68 = .ok (.aload_n 0, 1) := by decide +kernel
theorem dX12_isUnnoticed_69 : decode cX12_isUnnoticed 69 = .ok (.iload 4, 2) := by decide +kernel
theorem dX12_isUnnoticed_71 : decode cX12_isUnnoticed 71 = .ok (.iload 6, 2) := by decide +kernel
theorem dX12_isUnnoticed_73 : decode cX12_isUnnoticed 73 = .ok (.invokevirtual 131, 3) := by decide +kernel
theorem dX12_isUnnoticed_76 : decode cX12_isUnnoticed 76 = .ok (.aload_n 0, 1) := by decide +kernel
theorem dX12_isUnnoticed_77 : decode cX12_isUnnoticed 77 = .ok (.aload_n 0, 1) := by decide +kernel
theorem dX12_isUnnoticed_78 : decode cX12_isUnnoticed 78 = .ok (.iload_n 2, 1) := by decide +kernel
theorem dX12_isUnnoticed_79 : decode cX12_isUnnoticed 79 = .ok (.invokevirtual 247, 3) := by decide +kernel
theorem dX12_isUnnoticed_82 : decode cX12_isUnnoticed 82 = .ok (.iload 6, 2) := by decide +kernel
theorem dX12_isUnnoticed_84 : decode cX12_isUnnoticed 84 = .ok (.invokevirtual 131, 3) := by decide +kernel
theorem dX12_isUnnoticed_87 : decode cX12_isUnnoticed 87 = .ok (.isub, 1) := by decide +kernel
theorem dX12_isUnnoticed_88 : decode cX12_isUnnoticed 88 = .ok (.imul, 1) := by decide +kernel
theorem dX12_isUnnoticed_89 : decode cX12_isUnnoticed 89 = .ok (.iadd, 1) := by decide +kernel
theorem dX12_isUnnoticed_90 : decode cX12_isUnnoticed 90 = .ok (.ifCond .ne 7, 3) := by decide +kernel
theorem dX12_isUnnoticed_93 : decode cX12_isUnnoticed 93 = .ok (.iconst 1, 1) := by decide +kernel
theorem dX12_isUnnoticed_94 : decode cX12_isUnnoticed 94 = .ok (.goto 4, 3) := by decide +kernel
theorem dX12_isUnnoticed_97 : decode cX12_isUnnoticed 97 = .ok (.iconst 0, 1) := by decide +kernel
theorem dX12_isUnnoticed_98 : decode cX12_isUnnoticed 98 = .ok (.istore 5, 2) := by decide +kernel
theorem dX12_isUnnoticed_100 : decode cX12_isUnnoticed 100 = .ok (.iinc 6 1, 3) := by decide +kernel
theorem dX12_isUnnoticed_103 : decode cX12_isUnnoticed 103 = .ok (.goto (-76), 3) := by decide +kernel
theorem dX12_isUnnoticed_106 : decode cX12_isUnnoticed 106 = .ok (.iload 5, 2) := by decide +kernel
theorem dX12_isUnnoticed_108 : decode cX12_isUnnoticed 108 = .ok (.ireturn, 1) := by decide +kernel
set_option maxRecDepth 100000 in
def F_X12_isUnnoticed_b98 (v0 : Nat) (v1 : Int32) (v2 : Int32) (v3 : Int32) (v4 : Int32) (v6 : Int32) (t0 : Int32) (h : Hp) : Option ((Int32 × Int32) ⊕ Int32) :=
  some (.inl (t0, v6 + (1 : Int32)))
set_option maxHeartbeats 4000000 in
set_option maxRecDepth 100000 in
theorem r_X12_isUnnoticed_b98 (v0 : Nat) (v1 : Int32) (v2 : Int32) (v3 : Int32) (v4 : Int32) (v6 : Int32) (t0 : Int32) (h : Hp) {x : Cx} {o : ((Int32 × Int32) ⊕ Int32)} (e : F_X12_isUnnoticed_b98 v0 v1 v2 v3 v4 v6 t0 h = some o) (kI : ∀ z, o = .inl z → V M_X12_isUnnoticed x 1 27 [(0, .ref v0), (1, .int v1), (2, .int v2), (3, .int v3), (4, .int v4), (5, .int z.1), (6, .int z.2)] [] h 0 0) (kE106 : ∀ z : Int32, o = .inr z → V M_X12_isUnnoticed x 1 106 [(5, .int z)] [] h 0 0) : V M_X12_isUnnoticed x 1 98 [(0, .ref v0), (1, .int v1), (2, .int v2), (3, .int v3), (4, .int v4), (6, .int v6)] [.int t0] h 0 0 := by
  unfold F_X12_isUnnoticed_b98 at e
  refine V_istore (pc := 98) (i := 5) (lv' := [(5, .int t0), (0, .ref v0), (1, .int v1), (2, .int v2), (3, .int v3), (4, .int v4), (6, .int v6)]) dX12_isUnnoticed_98 (by decide) rfl ?_
  refine V_iinc (pc := 100) (i := 6) (u := v6 + (1 : Int32)) (lv' := [(6, .int (v6 + (1 : Int32))), (5, .int t0), (0, .ref v0), (1, .int v1), (2, .int v2), (3, .int v3), (4, .int v4)]) dX12_isUnnoticed_100 rfl rfl (by decide) rfl ?_
  refine V_goto (pc := 103) (tgt := 27) dX12_isUnnoticed_103 (by decide) ?_
  cases e
  exact V_pick [2, 3, 4, 5, 6, 1, 0] rfl (kI (t0, v6 + (1 : Int32)) rfl)
set_option maxRecDepth 100000 in
def F_X12_isUnnoticed_b97 (v0 : Nat) (v1 : Int32) (v2 : Int32) (v3 : Int32) (v4 : Int32) (v6 : Int32) (h : Hp) : Option ((Int32 × Int32) ⊕ Int32) :=
  F_X12_isUnnoticed_b98 v0 v1 v2 v3 v4 v6 (0 : Int32) h
set_option maxHeartbeats 4000000 in
set_option maxRecDepth 100000 in
theorem r_X12_isUnnoticed_b97 (v0 : Nat) (v1 : Int32) (v2 : Int32) (v3 : Int32) (v4 : Int32) (v6 : Int32) (h : Hp) {x : Cx} {o : ((Int32 × Int32) ⊕ Int32)} (e : F_X12_isUnnoticed_b97 v0 v1 v2 v3 v4 v6 h = some o) (kI : ∀ z, o = .inl z → V M_X12_isUnnoticed x 1 27 [(0, .ref v0), (1, .int v1), (2, .int v2), (3, .int v3), (4, .int v4), (5, .int z.1), (6, .int z.2)] [] h 0 0) (kE106 : ∀ z : Int32, o = .inr z → V M_X12_isUnnoticed x 1 106 [(5, .int z)] [] h 0 0) : V M_X12_isUnnoticed x 1 97 [(0, .ref v0), (1, .int v1), (2, .int v2), (3, .int v3), (4, .int v4), (6, .int v6)] [] h 0 0 := by
  unfold F_X12_isUnnoticed_b97 at e
  refine V_iconst (pc := 97) (v := (0 : Int32)) dX12_isUnnoticed_97 (by decide) ?_
  exact V_pick [0, 1, 2, 3, 4, 5] rfl (r_X12_isUnnoticed_b98 v0 v1 v2 v3 v4 v6 (0 : Int32) h e kI kE106)
set_option maxRecDepth 100000 in
def F_X12_isUnnoticed_l27 (v0 : Nat) (v1 : Int32) (v2 : Int32) (v3 : Int32) (v4 : Int32) (v5 : Int32) (v6 : Int32) (h : Hp) : Option ((Int32 × Int32) ⊕ Int32) :=
  (if (1 : Int32) < v6 then some (.inr v5) else (if v5 = 0 then F_X12_isUnnoticed_b97 v0 v1 v2 v3 v4 v6 h else ob (F_X12_weightOf v0 v1 h) fun r5 => gd (decide (kd h v0 = 11)) <| ob (F_X12_ofRoom v0 v3 v6 h) fun r8 => ob (F_X12_roomOf v0 v1 h) fun r10 => ob (F_X12_ofRoom v0 r10 v6 h) fun r12 => ob (F_X12_weightOf v0 v2 h) fun r14 => ob (F_X12_ofRoom v0 v4 v6 h) fun r16 => ob (F_X12_roomOf v0 v2 h) fun r18 => ob (F_X12_ofRoom v0 r18 v6 h) fun r20 => (if ((r5 * (r8 - r12)) + (r14 * (r16 - r20))) = 0 then F_X12_isUnnoticed_b98 v0 v1 v2 v3 v4 v6 (1 : Int32) h else F_X12_isUnnoticed_b97 v0 v1 v2 v3 v4 v6 h)))
set_option maxHeartbeats 4000000 in
set_option maxRecDepth 100000 in
theorem r_X12_isUnnoticed_l27 (v0 : Nat) (v1 : Int32) (v2 : Int32) (v3 : Int32) (v4 : Int32) (v5 : Int32) (v6 : Int32) (h : Hp) {x : Cx} {o : ((Int32 × Int32) ⊕ Int32)} (e : F_X12_isUnnoticed_l27 v0 v1 v2 v3 v4 v5 v6 h = some o) (kI : ∀ z, o = .inl z → V M_X12_isUnnoticed x 1 27 [(0, .ref v0), (1, .int v1), (2, .int v2), (3, .int v3), (4, .int v4), (5, .int z.1), (6, .int z.2)] [] h 0 0) (kE106 : ∀ z : Int32, o = .inr z → V M_X12_isUnnoticed x 1 106 [(5, .int z)] [] h 0 0) : V M_X12_isUnnoticed x 1 27 [(0, .ref v0), (1, .int v1), (2, .int v2), (3, .int v3), (4, .int v4), (5, .int v5), (6, .int v6)] [] h 0 0 := by
  unfold F_X12_isUnnoticed_l27 at e
  refine V_iload (pc := 27) (i := 6) dX12_isUnnoticed_27 rfl ?_
  refine V_iconst (pc := 29) (v := (1 : Int32)) dX12_isUnnoticed_29 (by decide) ?_
  refine V_icmp_gt (pc := 30) (tgt := 106) dX12_isUnnoticed_30 (by decide) (fun c23 => ?_) (fun c23 => ?_)
  · rw [if_pos c23] at e
    cases e
    exact V_pick [5] rfl (kE106 v5 rfl)
  · rw [if_neg c23] at e
    refine V_pick [0, 1, 2, 3, 4, 5, 6] rfl ?_
    refine V_iload (pc := 33) (i := 5) dX12_isUnnoticed_33 rfl ?_
    refine V_if_eq (pc := 35) (tgt := 97) dX12_isUnnoticed_35 (by decide) (fun c22 => ?_) (fun c22 => ?_)
    · rw [if_pos c22] at e
      exact V_pick [0, 1, 2, 3, 4, 6] rfl (r_X12_isUnnoticed_b97 v0 v1 v2 v3 v4 v6 h e kI kE106)
    · rw [if_neg c22] at e
      refine V_pick [0, 1, 2, 3, 4, 6] rfl ?_
      refine V_aload_n (pc := 38) (i := 0) dX12_isUnnoticed_38 rfl rfl ?_
      refine V_iload_n (pc := 39) (i := 1) dX12_isUnnoticed_39 rfl rfl ?_
      obtain ⟨r5, g4, e⟩ := ob_some e
      obtain ⟨g6, e⟩ := gd_some e
      refine V_callV (pc := 40) (bc := 0) (bs := 0) (mc := 0) (ms := 0) (st := []) (As := [.int v1]) (a := v0) (h' := h) (r := some (.int r5)) dX12_isUnnoticed_40 ml_X12_256 (ci := 11) rfl (of_decide_eq_true g6) rfl rfl (Nat.le_of_ble_eq_true rfl) (d' := 0) (by decide) (c_X12_weightOf (l := x.2.1) v0 v1 h g4) ?_
      refine V_aload_n (pc := 43) (i := 0) dX12_isUnnoticed_43 rfl rfl ?_
      refine V_iload_n (pc := 44) (i := 3) dX12_isUnnoticed_44 rfl rfl ?_
      refine V_iload (pc := 45) (i := 6) dX12_isUnnoticed_45 rfl ?_
      obtain ⟨r8, g7, e⟩ := ob_some e
      refine V_callV (pc := 47) (bc := 0) (bs := 0) (mc := 0) (ms := 0) (st := [.int r5]) (As := [.int v3, .int v6]) (a := v0) (h' := h) (r := some (.int r8)) dX12_isUnnoticed_47 ml_X12_131 (ci := 11) rfl (of_decide_eq_true g6) rfl rfl (Nat.le_of_ble_eq_true rfl) (d' := 0) (by decide) (c_X12_ofRoom (l := x.2.1) v0 v3 v6 h g7) ?_
      refine V_aload_n (pc := 50) (i := 0) dX12_isUnnoticed_50 rfl rfl ?_
      refine V_aload_n (pc := 51) (i := 0) dX12_isUnnoticed_51 rfl rfl ?_
      refine V_iload_n (pc := 52) (i := 1) dX12_isUnnoticed_52 rfl rfl ?_
      obtain ⟨r10, g9, e⟩ := ob_some e
      refine V_callV (pc := 53) (bc := 0) (bs := 0) (mc := 0) (ms := 0) (st := [.ref v0, .int r8, .int r5]) (As := [.int v1]) (a := v0) (h' := h) (r := some (.int r10)) dX12_isUnnoticed_53 ml_X12_247 (ci := 11) rfl (of_decide_eq_true g6) rfl rfl (Nat.le_of_ble_eq_true rfl) (d' := 0) (by decide) (c_X12_roomOf (l := x.2.1) v0 v1 h g9) ?_
      refine V_iload (pc := 56) (i := 6) dX12_isUnnoticed_56 rfl ?_
      obtain ⟨r12, g11, e⟩ := ob_some e
      refine V_callV (pc := 58) (bc := 0) (bs := 0) (mc := 0) (ms := 0) (st := [.int r8, .int r5]) (As := [.int r10, .int v6]) (a := v0) (h' := h) (r := some (.int r12)) dX12_isUnnoticed_58 ml_X12_131 (ci := 11) rfl (of_decide_eq_true g6) rfl rfl (Nat.le_of_ble_eq_true rfl) (d' := 0) (by decide) (c_X12_ofRoom (l := x.2.1) v0 r10 v6 h g11) ?_
      refine V_isub (pc := 61) dX12_isUnnoticed_61 ?_
      refine V_imul (pc := 62) dX12_isUnnoticed_62 ?_
      refine V_aload_n (pc := 63) (i := 0) dX12_isUnnoticed_63 rfl rfl ?_
      refine V_iload_n (pc := 64) (i := 2) dX12_isUnnoticed_64 rfl rfl ?_
      obtain ⟨r14, g13, e⟩ := ob_some e
      refine V_callV (pc := 65) (bc := 0) (bs := 0) (mc := 0) (ms := 0) (st := [.int (r5 * (r8 - r12))]) (As := [.int v2]) (a := v0) (h' := h) (r := some (.int r14)) dX12_isUnnoticed_65 ml_X12_256 (ci := 11) rfl (of_decide_eq_true g6) rfl rfl (Nat.le_of_ble_eq_true rfl) (d' := 0) (by decide) (c_X12_weightOf (l := x.2.1) v0 v2 h g13) ?_
      refine V_aload_n (pc := 68) (i := 0) dX12_isUnnoticed_68 rfl rfl ?_
      refine V_iload (pc := 69) (i := 4) dX12_isUnnoticed_69 rfl ?_
      refine V_iload (pc := 71) (i := 6) dX12_isUnnoticed_71 rfl ?_
      obtain ⟨r16, g15, e⟩ := ob_some e
      refine V_callV (pc := 73) (bc := 0) (bs := 0) (mc := 0) (ms := 0) (st := [.int r14, .int (r5 * (r8 - r12))]) (As := [.int v4, .int v6]) (a := v0) (h' := h) (r := some (.int r16)) dX12_isUnnoticed_73 ml_X12_131 (ci := 11) rfl (of_decide_eq_true g6) rfl rfl (Nat.le_of_ble_eq_true rfl) (d' := 0) (by decide) (c_X12_ofRoom (l := x.2.1) v0 v4 v6 h g15) ?_
      refine V_aload_n (pc := 76) (i := 0) dX12_isUnnoticed_76 rfl rfl ?_
      refine V_aload_n (pc := 77) (i := 0) dX12_isUnnoticed_77 rfl rfl ?_
      refine V_iload_n (pc := 78) (i := 2) dX12_isUnnoticed_78 rfl rfl ?_
      obtain ⟨r18, g17, e⟩ := ob_some e
      refine V_callV (pc := 79) (bc := 0) (bs := 0) (mc := 0) (ms := 0) (st := [.ref v0, .int r16, .int r14, .int (r5 * (r8 - r12))]) (As := [.int v2]) (a := v0) (h' := h) (r := some (.int r18)) dX12_isUnnoticed_79 ml_X12_247 (ci := 11) rfl (of_decide_eq_true g6) rfl rfl (Nat.le_of_ble_eq_true rfl) (d' := 0) (by decide) (c_X12_roomOf (l := x.2.1) v0 v2 h g17) ?_
      refine V_iload (pc := 82) (i := 6) dX12_isUnnoticed_82 rfl ?_
      obtain ⟨r20, g19, e⟩ := ob_some e
      refine V_callV (pc := 84) (bc := 0) (bs := 0) (mc := 0) (ms := 0) (st := [.int r16, .int r14, .int (r5 * (r8 - r12))]) (As := [.int r18, .int v6]) (a := v0) (h' := h) (r := some (.int r20)) dX12_isUnnoticed_84 ml_X12_131 (ci := 11) rfl (of_decide_eq_true g6) rfl rfl (Nat.le_of_ble_eq_true rfl) (d' := 0) (by decide) (c_X12_ofRoom (l := x.2.1) v0 r18 v6 h g19) ?_
      refine V_isub (pc := 87) dX12_isUnnoticed_87 ?_
      refine V_imul (pc := 88) dX12_isUnnoticed_88 ?_
      refine V_iadd (pc := 89) dX12_isUnnoticed_89 ?_
      refine V_if_ne (pc := 90) (tgt := 97) dX12_isUnnoticed_90 (by decide) (fun c21 => ?_) (fun c21 => ?_)
      · rw [if_neg c21] at e
        exact V_pick [0, 1, 2, 3, 4, 5] rfl (r_X12_isUnnoticed_b97 v0 v1 v2 v3 v4 v6 h e kI kE106)
      · rw [if_pos c21] at e
        refine V_pick [0, 1, 2, 3, 4, 5] rfl ?_
        refine V_iconst (pc := 93) (v := (1 : Int32)) dX12_isUnnoticed_93 (by decide) ?_
        refine V_goto (pc := 94) (tgt := 98) dX12_isUnnoticed_94 (by decide) ?_
        exact V_pick [0, 1, 2, 3, 4, 5] rfl (r_X12_isUnnoticed_b98 v0 v1 v2 v3 v4 v6 (1 : Int32) h e kI kE106)
set_option maxRecDepth 100000 in
def F_X12_isUnnoticed_b21 (v0 : Nat) (v1 : Int32) (v2 : Int32) (v3 : Int32) (v4 : Int32) (h : Hp) : Option Int32 :=
  ob (iter (fun z : Int32 × Int32 => F_X12_isUnnoticed_l27 v0 v1 v2 v3 v4 z.1 z.2 h) FU ((1 : Int32), (0 : Int32))) (fun w24 => gd (decide (w24 = 0 ∨ w24 = 1)) <| some w24)
set_option maxHeartbeats 4000000 in
set_option maxRecDepth 100000 in
theorem r_X12_isUnnoticed_b21 (v0 : Nat) (v1 : Int32) (v2 : Int32) (v3 : Int32) (v4 : Int32) (h : Hp) {x : Cx} {r : Int32} (e : F_X12_isUnnoticed_b21 v0 v1 v2 v3 v4 h = some r) (hF : Fin9 M_X12_isUnnoticed x (some .boolean) (some (.int r)) h) : V M_X12_isUnnoticed x 1 21 [(0, .ref v0), (1, .int v1), (2, .int v2), (3, .int v3), (4, .int v4)] [] h 0 0 := by
  unfold F_X12_isUnnoticed_b21 at e
  refine V_iconst (pc := 21) (v := (1 : Int32)) dX12_isUnnoticed_21 (by decide) ?_
  refine V_istore (pc := 22) (i := 5) (lv' := [(5, .int (1 : Int32)), (0, .ref v0), (1, .int v1), (2, .int v2), (3, .int v3), (4, .int v4)]) dX12_isUnnoticed_22 (by decide) rfl ?_
  refine V_iconst (pc := 24) (v := (0 : Int32)) dX12_isUnnoticed_24 (by decide) ?_
  refine V_istore (pc := 25) (i := 6) (lv' := [(6, .int (0 : Int32)), (5, .int (1 : Int32)), (0, .ref v0), (1, .int v1), (2, .int v2), (3, .int v3), (4, .int v4)]) dX12_isUnnoticed_25 (by decide) rfl ?_
  refine V_pick [2, 3, 4, 5, 6, 1, 0] rfl ?_
  obtain ⟨y26, g27, e⟩ := ob_some e
  refine iter_V (P := fun z : Int32 × Int32 => V M_X12_isUnnoticed x 1 27 [(0, .ref v0), (1, .int v1), (2, .int v2), (3, .int v3), (4, .int v4), (5, .int z.1), (6, .int z.2)] [] h 0 0) (E := fun z : Int32 => V M_X12_isUnnoticed x 1 106 [(5, .int z)] [] h 0 0) (fun z o e9 k1 k2 => r_X12_isUnnoticed_l27 v0 v1 v2 v3 v4 z.1 z.2 h e9 (fun z hz9 => k1 z hz9) (fun z hz9 => k2 _ hz9)) _ _ _ g27 ?_
  clear g27
  obtain ⟨w24, rfl⟩ : ∃ q, q = y26 := ⟨_, rfl⟩
  replace e : (gd (decide (w24 = 0 ∨ w24 = 1)) <| some w24) = some r := e
  show V M_X12_isUnnoticed x 1 106 [(5, .int w24)] [] h 0 0
  refine V_iload (pc := 106) (i := 5) dX12_isUnnoticed_106 rfl ?_
  obtain ⟨g25, e⟩ := gd_some e
  cases e
  exact V_zret (pc := 108) dX12_isUnnoticed_108 (z01 (of_decide_eq_true g25)) hF
set_option maxRecDepth 100000 in
def F_X12_isUnnoticed_b0 (v0 : Nat) (v1 : Int32) (v2 : Int32) (v3 : Int32) (v4 : Int32) (h : Hp) : Option Int32 :=
  ob (F_X12_roomOf v0 v1 h) fun r2 => gd (decide (kd h v0 = 11)) <| (if v3 = r2 then ob (F_X12_roomOf v0 v2 h) fun r29 => (if v4 = r29 then some (0 : Int32) else F_X12_isUnnoticed_b21 v0 v1 v2 v3 v4 h) else F_X12_isUnnoticed_b21 v0 v1 v2 v3 v4 h)
set_option maxHeartbeats 4000000 in
set_option maxRecDepth 100000 in
theorem r_X12_isUnnoticed_b0 (v0 : Nat) (v1 : Int32) (v2 : Int32) (v3 : Int32) (v4 : Int32) (h : Hp) {x : Cx} {r : Int32} (e : F_X12_isUnnoticed_b0 v0 v1 v2 v3 v4 h = some r) (hF : Fin9 M_X12_isUnnoticed x (some .boolean) (some (.int r)) h) : V M_X12_isUnnoticed x 1 0 [(0, .ref v0), (1, .int v1), (2, .int v2), (3, .int v3), (4, .int v4)] [] h 0 0 := by
  unfold F_X12_isUnnoticed_b0 at e
  refine V_iload_n (pc := 0) (i := 3) dX12_isUnnoticed_0 rfl rfl ?_
  refine V_aload_n (pc := 1) (i := 0) dX12_isUnnoticed_1 rfl rfl ?_
  refine V_iload_n (pc := 2) (i := 1) dX12_isUnnoticed_2 rfl rfl ?_
  obtain ⟨r2, g1, e⟩ := ob_some e
  obtain ⟨g3, e⟩ := gd_some e
  refine V_callV (pc := 3) (bc := 0) (bs := 0) (mc := 0) (ms := 0) (st := [.int v3]) (As := [.int v1]) (a := v0) (h' := h) (r := some (.int r2)) dX12_isUnnoticed_3 ml_X12_247 (ci := 11) rfl (of_decide_eq_true g3) rfl rfl (Nat.le_of_ble_eq_true rfl) (d' := 0) (by decide) (c_X12_roomOf (l := x.2.1) v0 v1 h g1) ?_
  refine V_icmp_ne (pc := 6) (tgt := 21) dX12_isUnnoticed_6 (by decide) (fun c31 => ?_) (fun c31 => ?_)
  · rw [if_neg c31] at e
    exact V_pick [0, 1, 2, 3, 4] rfl (r_X12_isUnnoticed_b21 v0 v1 v2 v3 v4 h e hF)
  · rw [if_pos c31] at e
    refine V_pick [0, 1, 2, 3, 4] rfl ?_
    refine V_iload (pc := 9) (i := 4) dX12_isUnnoticed_9 rfl ?_
    refine V_aload_n (pc := 11) (i := 0) dX12_isUnnoticed_11 rfl rfl ?_
    refine V_iload_n (pc := 12) (i := 2) dX12_isUnnoticed_12 rfl rfl ?_
    obtain ⟨r29, g28, e⟩ := ob_some e
    refine V_callV (pc := 13) (bc := 0) (bs := 0) (mc := 0) (ms := 0) (st := [.int v4]) (As := [.int v2]) (a := v0) (h' := h) (r := some (.int r29)) dX12_isUnnoticed_13 ml_X12_247 (ci := 11) rfl (of_decide_eq_true g3) rfl rfl (Nat.le_of_ble_eq_true rfl) (d' := 0) (by decide) (c_X12_roomOf (l := x.2.1) v0 v2 h g28) ?_
    refine V_icmp_ne (pc := 16) (tgt := 21) dX12_isUnnoticed_16 (by decide) (fun c30 => ?_) (fun c30 => ?_)
    · rw [if_neg c30] at e
      exact V_pick [0, 1, 2, 3, 4] rfl (r_X12_isUnnoticed_b21 v0 v1 v2 v3 v4 h e hF)
    · rw [if_pos c30] at e
      refine V_pick [] rfl ?_
      refine V_iconst (pc := 19) (v := (0 : Int32)) dX12_isUnnoticed_19 (by decide) ?_
      cases e
      exact V_zret (pc := 20) dX12_isUnnoticed_20 rfl hF
def F_X12_isUnnoticed (v0 : Nat) (v1 : Int32) (v2 : Int32) (v3 : Int32) (v4 : Int32) (h : Hp) : Option Int32 := F_X12_isUnnoticed_b0 v0 v1 v2 v3 v4 h
theorem c_X12_isUnnoticed {l : Launch} (v0 : Nat) (v1 : Int32) (v2 : Int32) (v3 : Int32) (v4 : Int32) (h : Hp) {r : Int32} (e : F_X12_isUnnoticed v0 v1 v2 v3 v4 h = some r) : Ct l yX12_isUnnoticed M_X12_isUnnoticed (some .boolean) 1 [.ref v0, .int v1, .int v2, .int v3, .int v4] h 0 0 (some (.int r)) h :=
  Ct_of rfl rfl (fun q => by cases q) (Nat.le_of_ble_eq_true rfl) (fun x _ hF => V_pick [0, 1, 2, 3, 4] rfl (r_X12_isUnnoticed_b0 v0 v1 v2 v3 v4 h e hF))
theorem dX12_unnoticed_0 : decode cX12_unnoticed 0 = .ok (.aload_n 0, 1) := by decide +kernel
theorem dX12_unnoticed_1 : decode cX12_unnoticed 1 = .ok (.iconst 0, 1) := by decide +kernel
theorem dX12_unnoticed_2 : decode cX12_unnoticed 2 = .ok (.putfield 3, 3) := by decide +kernel
theorem dX12_unnoticed_5 : decode cX12_unnoticed 5 = .ok (.iconst 0, 1) := by decide +kernel
theorem dX12_unnoticed_6 : decode cX12_unnoticed 6 = .ok (.istore_n 2, 1) := by decide +kernel
theorem dX12_unnoticed_7 : decode cX12_unnoticed 7 = .ok (.iconst 0, 1) := by decide +kernel
theorem dX12_unnoticed_8 : decode cX12_unnoticed 8 = .ok (.istore_n 3, 1) := by decide +kernel
theorem dX12_unnoticed_9 : decode cX12_unnoticed 9 = .ok (.iload_n 3, 1) := by decide +kernel
theorem dX12_unnoticed_10 : decode cX12_unnoticed 10 = .ok (.aload_n 0, 1) := by decide +kernel
theorem dX12_unnoticed_11 : decode cX12_unnoticed 11 = .ok (.invokevirtual 68, 3) := by decide +kernel
theorem dX12_unnoticed_14 : decode cX12_unnoticed 14 = .ok (.if_icmp .ge 110, 3) := by decide +kernel
theorem dX12_unnoticed_17 : decode cX12_unnoticed 17 = .ok (.iload_n 3, 1) := by decide +kernel
theorem dX12_unnoticed_18 : decode cX12_unnoticed 18 = .ok (.iconst 1, 1) := by decide +kernel
theorem dX12_unnoticed_19 : decode cX12_unnoticed 19 = .ok (.iadd, 1) := by decide +kernel
theorem dX12_unnoticed_20 : decode cX12_unnoticed 20 = .ok (.istore 4, 2) := by decide +kernel
theorem dX12_unnoticed_22 : decode cX12_unnoticed 22 = .ok (.iload 4, 2) := by decide +kernel
theorem dX12_unnoticed_24 : decode cX12_unnoticed 24 = .ok (.aload_n 0, 1) := by decide +kernel
theorem dX12_unnoticed_25 : decode cX12_unnoticed 25 = .ok (.invokevirtual 68, 3) := by decide +kernel
theorem dX12_unnoticed_28 : decode cX12_unnoticed 28 = .ok (.if_icmp .ge 90, 3) := by decide +kernel
theorem dX12_unnoticed_31 : decode cX12_unnoticed 31 = .ok (.iconst 0, 1) := by decide +kernel
theorem dX12_unnoticed_32 : decode cX12_unnoticed 32 = .ok (.istore 5, 2) := by decide +kernel
theorem dX12_unnoticed_34 : decode cX12_unnoticed 34 = .ok (.iload 5, 2) := by decide +kernel
theorem dX12_unnoticed_36 : decode cX12_unnoticed 36 = .ok (.aload_n 0, 1) := by decide +kernel
theorem dX12_unnoticed_37 : decode cX12_unnoticed 37 = .ok (.invokevirtual 60, 3) := by decide +kernel
theorem dX12_unnoticed_40 : decode cX12_unnoticed 40 = .ok (.if_icmp .ge 72, 3) := by decide +kernel
theorem dX12_unnoticed_43 : decode cX12_unnoticed 43 = .ok (.iconst 0, 1) := by decide +kernel
theorem dX12_unnoticed_44 : decode cX12_unnoticed 44 = .ok (.istore 6, 2) := by decide +kernel
theorem dX12_unnoticed_46 : decode cX12_unnoticed 46 = .ok (.iload 6, 2) := by decide +kernel
theorem dX12_unnoticed_48 : decode cX12_unnoticed 48 = .ok (.aload_n 0, 1) := by decide +kernel
theorem dX12_unnoticed_49 : decode cX12_unnoticed 49 = .ok (.invokevirtual 60, 3) := by decide +kernel
theorem dX12_unnoticed_52 : decode cX12_unnoticed 52 = .ok (.if_icmp .ge 54, 3) := by decide +kernel
theorem dX12_unnoticed_55 : decode cX12_unnoticed 55 = .ok (.aload_n 0, 1) := by decide +kernel
theorem dX12_unnoticed_56 : decode cX12_unnoticed 56 = .ok (.iload_n 3, 1) := by decide +kernel
theorem dX12_unnoticed_57 : decode cX12_unnoticed 57 = .ok (.iload 4, 2) := by decide +kernel
theorem dX12_unnoticed_59 : decode cX12_unnoticed 59 = .ok (.iload 5, 2) := by decide +kernel
theorem dX12_unnoticed_61 : decode cX12_unnoticed 61 = .ok (.iload 6, 2) := by decide +kernel
theorem dX12_unnoticed_63 : decode cX12_unnoticed 63 = .ok (.invokevirtual 404, 3) := by decide +kernel
theorem dX12_unnoticed_66 : decode cX12_unnoticed 66 = .ok (.ifCond .ne 6, 3) := by decide +kernel
theorem dX12_unnoticed_69 : decode cX12_unnoticed 69 = .ok (.goto 31, 3) := by decide +kernel
theorem dX12_unnoticed_72 : decode cX12_unnoticed 72 = .ok (.iload_n 1, 1) := by decide +kernel
theorem dX12_unnoticed_73 : decode cX12_unnoticed 73 = .ok (.ifCond .eq 24, 3) := by decide +kernel
theorem dX12_unnoticed_76 : decode cX12_unnoticed 76 = .ok (.sipush 512, 3) := by decide +kernel
theorem dX12_unnoticed_79 : decode cX12_unnoticed 79 = .ok (.iload_n 3, 1) := by decide +kernel
theorem dX12_unnoticed_80 : decode cX12_unnoticed 80 = .ok (.imul, 1) := by decide +kernel
theorem dX12_unnoticed_81 : decode cX12_unnoticed 81 = .ok (.bipush 64, 2) := by decide +kernel
theorem dX12_unnoticed_83 : decode cX12_unnoticed 83 = .ok (.iload 4, 2) := by decide +kernel
theorem dX12_unnoticed_85 : decode cX12_unnoticed 85 = .ok (.imul, 1) := by decide +kernel
theorem dX12_unnoticed_86 : decode cX12_unnoticed 86 = .ok (.iadd, 1) := by decide +kernel
theorem dX12_unnoticed_87 : decode cX12_unnoticed 87 = .ok (.bipush 8, 2) := by decide +kernel
theorem dX12_unnoticed_89 : decode cX12_unnoticed 89 = .ok (.iload 5, 2) := by decide +kernel
theorem dX12_unnoticed_91 : decode cX12_unnoticed 91 = .ok (.imul, 1) := by decide +kernel
theorem dX12_unnoticed_92 : decode cX12_unnoticed 92 = .ok (.iadd, 1) := by decide +kernel
theorem dX12_unnoticed_93 : decode cX12_unnoticed 93 = .ok (.iload 6, 2) := by decide +kernel
theorem dX12_unnoticed_95 : decode cX12_unnoticed 95 = .ok (.iadd, 1) := by decide +kernel
theorem dX12_unnoticed_96 : decode cX12_unnoticed 96 = .ok (.ireturn, 1) := by decide +kernel
theorem dX12_unnoticed_97 : decode cX12_unnoticed 97 = .ok (.iinc 2 1, 3) := by decide +kernel
theorem dX12_unnoticed_100 : decode cX12_unnoticed 100 = .ok (.iinc 6 1, 3) := by decide +kernel
theorem dX12_unnoticed_103 : decode cX12_unnoticed 103 = .ok (.goto (-57), 3) := by decide +kernel
theorem dX12_unnoticed_106 : decode cX12_unnoticed 106 = .ok (.iinc 5 1, 3) := by decide +kernel
theorem dX12_unnoticed_109 : decode cX12_unnoticed 109 = .ok (.goto (-75), 3) := by decide +kernel
theorem dX12_unnoticed_112 : decode cX12_unnoticed 112 = .ok (.iinc 4 1, 3) := by decide +kernel
theorem dX12_unnoticed_115 : decode cX12_unnoticed 115 = .ok (.goto (-93), 3) := by decide +kernel
theorem dX12_unnoticed_118 : decode cX12_unnoticed 118 = .ok (.iinc 3 1, 3) := by decide +kernel
theorem dX12_unnoticed_121 : decode cX12_unnoticed 121 = .ok (.goto (-112), 3) := by decide +kernel
theorem dX12_unnoticed_124 : decode cX12_unnoticed 124 = .ok (.iload_n 1, 1) := by decide +kernel
theorem dX12_unnoticed_125 : decode cX12_unnoticed 125 = .ok (.ifCond .eq 7, 3) := by decide +kernel
theorem dX12_unnoticed_128 : decode cX12_unnoticed 128 = .ok (.iconst (-1), 1) := by decide +kernel
theorem dX12_unnoticed_129 : decode cX12_unnoticed 129 = .ok (.goto 4, 3) := by decide +kernel
theorem dX12_unnoticed_132 : decode cX12_unnoticed 132 = .ok (.iload_n 2, 1) := by decide +kernel
theorem dX12_unnoticed_133 : decode cX12_unnoticed 133 = .ok (.ireturn, 1) := by decide +kernel
set_option maxRecDepth 100000 in
def F_X12_unnoticed_b100 (v0 : Nat) (v1 : Int32) (v2 : Int32) (v3 : Int32) (v4 : Int32) (v5 : Int32) (v6 : Int32) (h : Hp) : Option ((Int32 × Int32) ⊕ (Int32 ⊕ Int32)) :=
  some (.inl (v2, v6 + (1 : Int32)))
set_option maxHeartbeats 4000000 in
set_option maxRecDepth 100000 in
theorem r_X12_unnoticed_b100 (v0 : Nat) (v1 : Int32) (v2 : Int32) (v3 : Int32) (v4 : Int32) (v5 : Int32) (v6 : Int32) (h : Hp) {x : Cx} {o : ((Int32 × Int32) ⊕ (Int32 ⊕ Int32))} (e : F_X12_unnoticed_b100 v0 v1 v2 v3 v4 v5 v6 h = some o) (kI : ∀ z, o = .inl z → V M_X12_unnoticed x 2 46 [(0, .ref v0), (1, .int v1), (2, .int z.1), (3, .int v3), (4, .int v4), (5, .int v5), (6, .int z.2)] [] h 0 0) (kE106 : ∀ z : Int32, o = .inr (.inl z) → V M_X12_unnoticed x 2 106 [(0, .ref v0), (1, .int v1), (2, .int z), (3, .int v3), (4, .int v4), (5, .int v5)] [] h 0 0) (kE76 : ∀ z : Int32, o = .inr (.inr z) → V M_X12_unnoticed x 2 76 [(3, .int v3), (4, .int v4), (5, .int v5), (6, .int z)] [] h 0 0) : V M_X12_unnoticed x 2 100 [(0, .ref v0), (1, .int v1), (2, .int v2), (3, .int v3), (4, .int v4), (5, .int v5), (6, .int v6)] [] h 0 0 := by
  unfold F_X12_unnoticed_b100 at e
  refine V_iinc (pc := 100) (i := 6) (u := v6 + (1 : Int32)) (lv' := [(6, .int (v6 + (1 : Int32))), (0, .ref v0), (1, .int v1), (2, .int v2), (3, .int v3), (4, .int v4), (5, .int v5)]) dX12_unnoticed_100 rfl rfl (by decide) rfl ?_
  refine V_goto (pc := 103) (tgt := 46) dX12_unnoticed_103 (by decide) ?_
  cases e
  exact V_pick [1, 2, 3, 4, 5, 6, 0] rfl (kI (v2, v6 + (1 : Int32)) rfl)
set_option maxRecDepth 100000 in
def F_X12_unnoticed_l46 (v0 : Nat) (v1 : Int32) (v2 : Int32) (v3 : Int32) (v4 : Int32) (v5 : Int32) (v6 : Int32) (h : Hp) : Option ((Int32 × Int32) ⊕ (Int32 ⊕ Int32)) :=
  ob (F_X12_rooms v0 h) fun r12 => gd (decide (kd h v0 = 11)) <| (if r12 ≤ v6 then some (.inr (.inl v2)) else ob (F_X12_isUnnoticed v0 v3 v4 v5 v6 h) fun r15 => (if r15 = 0 then F_X12_unnoticed_b100 v0 v1 v2 v3 v4 v5 v6 h else (if v1 = 0 then F_X12_unnoticed_b100 v0 v1 (v2 + (1 : Int32)) v3 v4 v5 v6 h else some (.inr (.inr v6)))))
set_option maxHeartbeats 4000000 in
set_option maxRecDepth 100000 in
theorem r_X12_unnoticed_l46 (v0 : Nat) (v1 : Int32) (v2 : Int32) (v3 : Int32) (v4 : Int32) (v5 : Int32) (v6 : Int32) (h : Hp) {x : Cx} {o : ((Int32 × Int32) ⊕ (Int32 ⊕ Int32))} (e : F_X12_unnoticed_l46 v0 v1 v2 v3 v4 v5 v6 h = some o) (kI : ∀ z, o = .inl z → V M_X12_unnoticed x 2 46 [(0, .ref v0), (1, .int v1), (2, .int z.1), (3, .int v3), (4, .int v4), (5, .int v5), (6, .int z.2)] [] h 0 0) (kE106 : ∀ z : Int32, o = .inr (.inl z) → V M_X12_unnoticed x 2 106 [(0, .ref v0), (1, .int v1), (2, .int z), (3, .int v3), (4, .int v4), (5, .int v5)] [] h 0 0) (kE76 : ∀ z : Int32, o = .inr (.inr z) → V M_X12_unnoticed x 2 76 [(3, .int v3), (4, .int v4), (5, .int v5), (6, .int z)] [] h 0 0) : V M_X12_unnoticed x 2 46 [(0, .ref v0), (1, .int v1), (2, .int v2), (3, .int v3), (4, .int v4), (5, .int v5), (6, .int v6)] [] h 0 0 := by
  unfold F_X12_unnoticed_l46 at e
  refine V_iload (pc := 46) (i := 6) dX12_unnoticed_46 rfl ?_
  refine V_aload_n (pc := 48) (i := 0) dX12_unnoticed_48 rfl rfl ?_
  obtain ⟨r12, g11, e⟩ := ob_some e
  obtain ⟨g13, e⟩ := gd_some e
  refine V_callV (pc := 49) (bc := 0) (bs := 0) (mc := 0) (ms := 0) (st := [.int v6]) (As := []) (a := v0) (h' := h) (r := some (.int r12)) dX12_unnoticed_49 ml_X12_60 (ci := 11) rfl (of_decide_eq_true g13) rfl rfl (Nat.le_of_ble_eq_true rfl) (d' := 0) (by decide) (c_X12_rooms (l := x.2.1) v0 h g11) ?_
  refine V_icmp_ge (pc := 52) (tgt := 106) dX12_unnoticed_52 (by decide) (fun c18 => ?_) (fun c18 => ?_)
  · rw [if_pos c18] at e
    cases e
    exact V_pick [0, 1, 2, 3, 4, 5] rfl (kE106 v2 rfl)
  · rw [if_neg c18] at e
    refine V_pick [0, 1, 2, 3, 4, 5, 6] rfl ?_
    refine V_aload_n (pc := 55) (i := 0) dX12_unnoticed_55 rfl rfl ?_
    refine V_iload_n (pc := 56) (i := 3) dX12_unnoticed_56 rfl rfl ?_
    refine V_iload (pc := 57) (i := 4) dX12_unnoticed_57 rfl ?_
    refine V_iload (pc := 59) (i := 5) dX12_unnoticed_59 rfl ?_
    refine V_iload (pc := 61) (i := 6) dX12_unnoticed_61 rfl ?_
    obtain ⟨r15, g14, e⟩ := ob_some e
    refine V_callV (pc := 63) (bc := 0) (bs := 0) (mc := 0) (ms := 0) (st := []) (As := [.int v3, .int v4, .int v5, .int v6]) (a := v0) (h' := h) (r := some (.int r15)) dX12_unnoticed_63 ml_X12_404 (ci := 11) rfl (of_decide_eq_true g13) rfl rfl (Nat.le_of_ble_eq_true rfl) (d' := 1) (by decide) (c_X12_isUnnoticed (l := x.2.1) v0 v3 v4 v5 v6 h g14) ?_
    refine V_if_ne (pc := 66) (tgt := 72) dX12_unnoticed_66 (by decide) (fun c17 => ?_) (fun c17 => ?_)
    · rw [if_neg c17] at e
      refine V_pick [0, 1, 2, 3, 4, 5, 6] rfl ?_
      refine V_iload_n (pc := 72) (i := 1) dX12_unnoticed_72 rfl rfl ?_
      refine V_if_eq (pc := 73) (tgt := 97) dX12_unnoticed_73 (by decide) (fun c16 => ?_) (fun c16 => ?_)
      · rw [if_pos c16] at e
        refine V_pick [0, 1, 2, 3, 4, 5, 6] rfl ?_
        refine V_iinc (pc := 97) (i := 2) (u := v2 + (1 : Int32)) (lv' := [(2, .int (v2 + (1 : Int32))), (0, .ref v0), (1, .int v1), (3, .int v3), (4, .int v4), (5, .int v5), (6, .int v6)]) dX12_unnoticed_97 rfl rfl (by decide) rfl ?_
        exact V_pick [1, 2, 0, 3, 4, 5, 6] rfl (r_X12_unnoticed_b100 v0 v1 (v2 + (1 : Int32)) v3 v4 v5 v6 h e kI kE106 kE76)
      · rw [if_neg c16] at e
        cases e
        exact V_pick [3, 4, 5, 6] rfl (kE76 v6 rfl)
    · rw [if_pos c17] at e
      refine V_pick [0, 1, 2, 3, 4, 5, 6] rfl ?_
      refine V_goto (pc := 69) (tgt := 100) dX12_unnoticed_69 (by decide) ?_
      exact V_pick [0, 1, 2, 3, 4, 5, 6] rfl (r_X12_unnoticed_b100 v0 v1 v2 v3 v4 v5 v6 h e kI kE106 kE76)
set_option maxRecDepth 100000 in
def F_X12_unnoticed_l34 (v0 : Nat) (v1 : Int32) (v2 : Int32) (v3 : Int32) (v4 : Int32) (v5 : Int32) (h : Hp) : Option ((Int32 × Int32) ⊕ (Int32 ⊕ (Int32 × Int32))) :=
  ob (F_X12_rooms v0 h) fun r9 => gd (decide (kd h v0 = 11)) <| (if r9 ≤ v5 then some (.inr (.inl v2)) else ob (iter (fun z : Int32 × Int32 => F_X12_unnoticed_l46 v0 v1 z.1 v3 v4 v5 z.2 h) FU (v2, (0 : Int32))) (fun z => sm z (fun w19 => some (.inl (w19, v5 + (1 : Int32)))) (fun w20 => some (.inr (.inr (v5, w20))))))
set_option maxHeartbeats 4000000 in
set_option maxRecDepth 100000 in
theorem r_X12_unnoticed_l34 (v0 : Nat) (v1 : Int32) (v2 : Int32) (v3 : Int32) (v4 : Int32) (v5 : Int32) (h : Hp) {x : Cx} {o : ((Int32 × Int32) ⊕ (Int32 ⊕ (Int32 × Int32)))} (e : F_X12_unnoticed_l34 v0 v1 v2 v3 v4 v5 h = some o) (kI : ∀ z, o = .inl z → V M_X12_unnoticed x 2 34 [(0, .ref v0), (1, .int v1), (2, .int z.1), (3, .int v3), (4, .int v4), (5, .int z.2)] [] h 0 0) (kE112 : ∀ z : Int32, o = .inr (.inl z) → V M_X12_unnoticed x 2 112 [(0, .ref v0), (1, .int v1), (2, .int z), (3, .int v3), (4, .int v4)] [] h 0 0) (kE76 : ∀ z : Int32 × Int32, o = .inr (.inr z) → V M_X12_unnoticed x 2 76 [(3, .int v3), (4, .int v4), (5, .int z.1), (6, .int z.2)] [] h 0 0) : V M_X12_unnoticed x 2 34 [(0, .ref v0), (1, .int v1), (2, .int v2), (3, .int v3), (4, .int v4), (5, .int v5)] [] h 0 0 := by
  unfold F_X12_unnoticed_l34 at e
  refine V_iload (pc := 34) (i := 5) dX12_unnoticed_34 rfl ?_
  refine V_aload_n (pc := 36) (i := 0) dX12_unnoticed_36 rfl rfl ?_
  obtain ⟨r9, g8, e⟩ := ob_some e
  obtain ⟨g10, e⟩ := gd_some e
  refine V_callV (pc := 37) (bc := 0) (bs := 0) (mc := 0) (ms := 0) (st := [.int v5]) (As := []) (a := v0) (h' := h) (r := some (.int r9)) dX12_unnoticed_37 ml_X12_60 (ci := 11) rfl (of_decide_eq_true g10) rfl rfl (Nat.le_of_ble_eq_true rfl) (d' := 0) (by decide) (c_X12_rooms (l := x.2.1) v0 h g8) ?_
  refine V_icmp_ge (pc := 40) (tgt := 112) dX12_unnoticed_40 (by decide) (fun c25 => ?_) (fun c25 => ?_)
  · rw [if_pos c25] at e
    cases e
    exact V_pick [0, 1, 2, 3, 4] rfl (kE112 v2 rfl)
  · rw [if_neg c25] at e
    refine V_pick [0, 1, 2, 3, 4, 5] rfl ?_
    refine V_iconst (pc := 43) (v := (0 : Int32)) dX12_unnoticed_43 (by decide) ?_
    refine V_istore (pc := 44) (i := 6) (lv' := [(6, .int (0 : Int32)), (0, .ref v0), (1, .int v1), (2, .int v2), (3, .int v3), (4, .int v4), (5, .int v5)]) dX12_unnoticed_44 (by decide) rfl ?_
    refine V_pick [1, 2, 3, 4, 5, 6, 0] rfl ?_
    obtain ⟨y21, g22, e⟩ := ob_some e
    refine iter_V (P := fun z : Int32 × Int32 => V M_X12_unnoticed x 2 46 [(0, .ref v0), (1, .int v1), (2, .int z.1), (3, .int v3), (4, .int v4), (5, .int v5), (6, .int z.2)] [] h 0 0) (E := fun z => Sum.elim (fun z : Int32 => V M_X12_unnoticed x 2 106 [(0, .ref v0), (1, .int v1), (2, .int z), (3, .int v3), (4, .int v4), (5, .int v5)] [] h 0 0) (fun z : Int32 => V M_X12_unnoticed x 2 76 [(3, .int v3), (4, .int v4), (5, .int v5), (6, .int z)] [] h 0 0) z) (fun z o e9 k1 k2 => r_X12_unnoticed_l46 v0 v1 z.1 v3 v4 v5 z.2 h e9 (fun z hz9 => k1 z hz9) (fun z hz9 => k2 _ hz9) (fun z hz9 => k2 _ hz9)) _ _ _ g22 ?_
    clear g22
    rcases y21 with y23 | y24
    · obtain ⟨w19, rfl⟩ : ∃ q, q = y23 := ⟨_, rfl⟩
      replace e : (some (.inl (w19, v5 + (1 : Int32)))) = some o := e
      show V M_X12_unnoticed x 2 106 [(0, .ref v0), (1, .int v1), (2, .int w19), (3, .int v3), (4, .int v4), (5, .int v5)] [] h 0 0
      refine V_iinc (pc := 106) (i := 5) (u := v5 + (1 : Int32)) (lv' := [(5, .int (v5 + (1 : Int32))), (0, .ref v0), (1, .int v1), (2, .int w19), (3, .int v3), (4, .int v4)]) dX12_unnoticed_106 rfl rfl (by decide) rfl ?_
      refine V_goto (pc := 109) (tgt := 34) dX12_unnoticed_109 (by decide) ?_
      cases e
      exact V_pick [1, 2, 3, 4, 5, 0] rfl (kI (w19, v5 + (1 : Int32)) rfl)
    · obtain ⟨w20, rfl⟩ : ∃ q, q = y24 := ⟨_, rfl⟩
      replace e : (some (.inr (.inr (v5, w20)))) = some o := e
      show V M_X12_unnoticed x 2 76 [(3, .int v3), (4, .int v4), (5, .int v5), (6, .int w20)] [] h 0 0
      cases e
      exact V_pick [0, 1, 2, 3] rfl (kE76 (v5, w20) rfl)
set_option maxRecDepth 100000 in
def F_X12_unnoticed_l22 (v0 : Nat) (v1 : Int32) (v2 : Int32) (v3 : Int32) (v4 : Int32) (h : Hp) : Option ((Int32 × Int32) ⊕ (Int32 ⊕ (Int32 × Int32 × Int32))) :=
  ob (F_X12_guests v0 h) fun r6 => gd (decide (kd h v0 = 11)) <| (if r6 ≤ v4 then some (.inr (.inl v2)) else ob (iter (fun z : Int32 × Int32 => F_X12_unnoticed_l34 v0 v1 z.1 v3 v4 z.2 h) FU (v2, (0 : Int32))) (fun z => sm z (fun w26 => some (.inl (w26, v4 + (1 : Int32)))) (fun z => un2 z fun w27 w28 => some (.inr (.inr (v4, w27, w28))))))
set_option maxHeartbeats 4000000 in
set_option maxRecDepth 100000 in
theorem r_X12_unnoticed_l22 (v0 : Nat) (v1 : Int32) (v2 : Int32) (v3 : Int32) (v4 : Int32) (h : Hp) {x : Cx} {o : ((Int32 × Int32) ⊕ (Int32 ⊕ (Int32 × Int32 × Int32)))} (e : F_X12_unnoticed_l22 v0 v1 v2 v3 v4 h = some o) (kI : ∀ z, o = .inl z → V M_X12_unnoticed x 2 22 [(0, .ref v0), (1, .int v1), (2, .int z.1), (3, .int v3), (4, .int z.2)] [] h 0 0) (kE118 : ∀ z : Int32, o = .inr (.inl z) → V M_X12_unnoticed x 2 118 [(0, .ref v0), (1, .int v1), (2, .int z), (3, .int v3)] [] h 0 0) (kE76 : ∀ z : Int32 × Int32 × Int32, o = .inr (.inr z) → V M_X12_unnoticed x 2 76 [(3, .int v3), (4, .int z.1), (5, .int z.2.1), (6, .int z.2.2)] [] h 0 0) : V M_X12_unnoticed x 2 22 [(0, .ref v0), (1, .int v1), (2, .int v2), (3, .int v3), (4, .int v4)] [] h 0 0 := by
  unfold F_X12_unnoticed_l22 at e
  refine V_iload (pc := 22) (i := 4) dX12_unnoticed_22 rfl ?_
  refine V_aload_n (pc := 24) (i := 0) dX12_unnoticed_24 rfl rfl ?_
  obtain ⟨r6, g5, e⟩ := ob_some e
  obtain ⟨g7, e⟩ := gd_some e
  refine V_callV (pc := 25) (bc := 0) (bs := 0) (mc := 0) (ms := 0) (st := [.int v4]) (As := []) (a := v0) (h' := h) (r := some (.int r6)) dX12_unnoticed_25 ml_X12_68 (ci := 11) rfl (of_decide_eq_true g7) rfl rfl (Nat.le_of_ble_eq_true rfl) (d' := 0) (by decide) (c_X12_guests (l := x.2.1) v0 h g5) ?_
  refine V_icmp_ge (pc := 28) (tgt := 118) dX12_unnoticed_28 (by decide) (fun c33 => ?_) (fun c33 => ?_)
  · rw [if_pos c33] at e
    cases e
    exact V_pick [0, 1, 2, 3] rfl (kE118 v2 rfl)
  · rw [if_neg c33] at e
    refine V_pick [0, 1, 2, 3, 4] rfl ?_
    refine V_iconst (pc := 31) (v := (0 : Int32)) dX12_unnoticed_31 (by decide) ?_
    refine V_istore (pc := 32) (i := 5) (lv' := [(5, .int (0 : Int32)), (0, .ref v0), (1, .int v1), (2, .int v2), (3, .int v3), (4, .int v4)]) dX12_unnoticed_32 (by decide) rfl ?_
    refine V_pick [1, 2, 3, 4, 5, 0] rfl ?_
    obtain ⟨y29, g30, e⟩ := ob_some e
    refine iter_V (P := fun z : Int32 × Int32 => V M_X12_unnoticed x 2 34 [(0, .ref v0), (1, .int v1), (2, .int z.1), (3, .int v3), (4, .int v4), (5, .int z.2)] [] h 0 0) (E := fun z => Sum.elim (fun z : Int32 => V M_X12_unnoticed x 2 112 [(0, .ref v0), (1, .int v1), (2, .int z), (3, .int v3), (4, .int v4)] [] h 0 0) (fun z : Int32 × Int32 => V M_X12_unnoticed x 2 76 [(3, .int v3), (4, .int v4), (5, .int z.1), (6, .int z.2)] [] h 0 0) z) (fun z o e9 k1 k2 => r_X12_unnoticed_l34 v0 v1 z.1 v3 v4 z.2 h e9 (fun z hz9 => k1 z hz9) (fun z hz9 => k2 _ hz9) (fun z hz9 => k2 _ hz9)) _ _ _ g30 ?_
    clear g30
    rcases y29 with y31 | y32
    · obtain ⟨w26, rfl⟩ : ∃ q, q = y31 := ⟨_, rfl⟩
      replace e : (some (.inl (w26, v4 + (1 : Int32)))) = some o := e
      show V M_X12_unnoticed x 2 112 [(0, .ref v0), (1, .int v1), (2, .int w26), (3, .int v3), (4, .int v4)] [] h 0 0
      refine V_iinc (pc := 112) (i := 4) (u := v4 + (1 : Int32)) (lv' := [(4, .int (v4 + (1 : Int32))), (0, .ref v0), (1, .int v1), (2, .int w26), (3, .int v3)]) dX12_unnoticed_112 rfl rfl (by decide) rfl ?_
      refine V_goto (pc := 115) (tgt := 22) dX12_unnoticed_115 (by decide) ?_
      cases e
      exact V_pick [1, 2, 3, 4, 0] rfl (kI (w26, v4 + (1 : Int32)) rfl)
    · obtain ⟨w27, w28⟩ := y32
      replace e : (some (.inr (.inr (v4, w27, w28)))) = some o := e
      show V M_X12_unnoticed x 2 76 [(3, .int v3), (4, .int v4), (5, .int w27), (6, .int w28)] [] h 0 0
      cases e
      exact V_pick [0, 1, 2, 3] rfl (kE76 (v4, w27, w28) rfl)
set_option maxRecDepth 100000 in
def F_X12_unnoticed_l9 (v0 : Nat) (v1 : Int32) (v2 : Int32) (v3 : Int32) (h : Hp) : Option ((Int32 × Int32) ⊕ (Int32 ⊕ (Int32 × Int32 × Int32 × Int32))) :=
  ob (F_X12_guests v0 h) fun r3 => gd (decide (kd h v0 = 11)) <| (if r3 ≤ v3 then some (.inr (.inl v2)) else ob (iter (fun z : Int32 × Int32 => F_X12_unnoticed_l22 v0 v1 z.1 v3 z.2 h) FU (v2, v3 + (1 : Int32))) (fun z => sm z (fun w34 => some (.inl (w34, v3 + (1 : Int32)))) (fun z => un3 z fun w35 w36 w37 => some (.inr (.inr (v3, w35, w36, w37))))))
set_option maxHeartbeats 4000000 in
set_option maxRecDepth 100000 in
theorem r_X12_unnoticed_l9 (v0 : Nat) (v1 : Int32) (v2 : Int32) (v3 : Int32) (h : Hp) {x : Cx} {o : ((Int32 × Int32) ⊕ (Int32 ⊕ (Int32 × Int32 × Int32 × Int32)))} (e : F_X12_unnoticed_l9 v0 v1 v2 v3 h = some o) (kI : ∀ z, o = .inl z → V M_X12_unnoticed x 2 9 [(0, .ref v0), (1, .int v1), (2, .int z.1), (3, .int z.2)] [] h 0 0) (kE124 : ∀ z : Int32, o = .inr (.inl z) → V M_X12_unnoticed x 2 124 [(1, .int v1), (2, .int z)] [] h 0 0) (kE76 : ∀ z : Int32 × Int32 × Int32 × Int32, o = .inr (.inr z) → V M_X12_unnoticed x 2 76 [(3, .int z.1), (4, .int z.2.1), (5, .int z.2.2.1), (6, .int z.2.2.2)] [] h 0 0) : V M_X12_unnoticed x 2 9 [(0, .ref v0), (1, .int v1), (2, .int v2), (3, .int v3)] [] h 0 0 := by
  unfold F_X12_unnoticed_l9 at e
  refine V_iload_n (pc := 9) (i := 3) dX12_unnoticed_9 rfl rfl ?_
  refine V_aload_n (pc := 10) (i := 0) dX12_unnoticed_10 rfl rfl ?_
  obtain ⟨r3, g2, e⟩ := ob_some e
  obtain ⟨g4, e⟩ := gd_some e
  refine V_callV (pc := 11) (bc := 0) (bs := 0) (mc := 0) (ms := 0) (st := [.int v3]) (As := []) (a := v0) (h' := h) (r := some (.int r3)) dX12_unnoticed_11 ml_X12_68 (ci := 11) rfl (of_decide_eq_true g4) rfl rfl (Nat.le_of_ble_eq_true rfl) (d' := 0) (by decide) (c_X12_guests (l := x.2.1) v0 h g2) ?_
  refine V_icmp_ge (pc := 14) (tgt := 124) dX12_unnoticed_14 (by decide) (fun c42 => ?_) (fun c42 => ?_)
  · rw [if_pos c42] at e
    cases e
    exact V_pick [1, 2] rfl (kE124 v2 rfl)
  · rw [if_neg c42] at e
    refine V_pick [0, 1, 2, 3] rfl ?_
    refine V_iload_n (pc := 17) (i := 3) dX12_unnoticed_17 rfl rfl ?_
    refine V_iconst (pc := 18) (v := (1 : Int32)) dX12_unnoticed_18 (by decide) ?_
    refine V_iadd (pc := 19) dX12_unnoticed_19 ?_
    refine V_istore (pc := 20) (i := 4) (lv' := [(4, .int (v3 + (1 : Int32))), (0, .ref v0), (1, .int v1), (2, .int v2), (3, .int v3)]) dX12_unnoticed_20 (by decide) rfl ?_
    refine V_pick [1, 2, 3, 4, 0] rfl ?_
    obtain ⟨y38, g39, e⟩ := ob_some e
    refine iter_V (P := fun z : Int32 × Int32 => V M_X12_unnoticed x 2 22 [(0, .ref v0), (1, .int v1), (2, .int z.1), (3, .int v3), (4, .int z.2)] [] h 0 0) (E := fun z => Sum.elim (fun z : Int32 => V M_X12_unnoticed x 2 118 [(0, .ref v0), (1, .int v1), (2, .int z), (3, .int v3)] [] h 0 0) (fun z : Int32 × Int32 × Int32 => V M_X12_unnoticed x 2 76 [(3, .int v3), (4, .int z.1), (5, .int z.2.1), (6, .int z.2.2)] [] h 0 0) z) (fun z o e9 k1 k2 => r_X12_unnoticed_l22 v0 v1 z.1 v3 z.2 h e9 (fun z hz9 => k1 z hz9) (fun z hz9 => k2 _ hz9) (fun z hz9 => k2 _ hz9)) _ _ _ g39 ?_
    clear g39
    rcases y38 with y40 | y41
    · obtain ⟨w34, rfl⟩ : ∃ q, q = y40 := ⟨_, rfl⟩
      replace e : (some (.inl (w34, v3 + (1 : Int32)))) = some o := e
      show V M_X12_unnoticed x 2 118 [(0, .ref v0), (1, .int v1), (2, .int w34), (3, .int v3)] [] h 0 0
      refine V_iinc (pc := 118) (i := 3) (u := v3 + (1 : Int32)) (lv' := [(3, .int (v3 + (1 : Int32))), (0, .ref v0), (1, .int v1), (2, .int w34)]) dX12_unnoticed_118 rfl rfl (by decide) rfl ?_
      refine V_goto (pc := 121) (tgt := 9) dX12_unnoticed_121 (by decide) ?_
      cases e
      exact V_pick [1, 2, 3, 0] rfl (kI (w34, v3 + (1 : Int32)) rfl)
    · obtain ⟨w35, w36, w37⟩ := y41
      replace e : (some (.inr (.inr (v3, w35, w36, w37)))) = some o := e
      show V M_X12_unnoticed x 2 76 [(3, .int v3), (4, .int w35), (5, .int w36), (6, .int w37)] [] h 0 0
      cases e
      exact V_pick [0, 1, 2, 3] rfl (kE76 (v3, w35, w36, w37) rfl)
set_option maxRecDepth 100000 in
def F_X12_unnoticed_b133 (t0 : Int32) (h : Hp) : Option (Int32 × Hp) :=
  some (t0, h)
set_option maxHeartbeats 4000000 in
set_option maxRecDepth 100000 in
theorem r_X12_unnoticed_b133 (t0 : Int32) (h : Hp) {x : Cx} {r : Int32} {hz : Hp} (e : F_X12_unnoticed_b133 t0 h = some (r, hz)) (hF : Fin9 M_X12_unnoticed x (some .int) (some (.int r)) hz) : V M_X12_unnoticed x 2 133 [] [.int t0] h 0 0 := by
  unfold F_X12_unnoticed_b133 at e
  cases e
  exact V_iret (pc := 133) dX12_unnoticed_133 hF
set_option maxRecDepth 100000 in
def F_X12_unnoticed_b0 (v0 : Nat) (v1 : Int32) (h : Hp) : Option (Int32 × Hp) :=
  gd (decide (kd h v0 = 11)) <| ob (iter (fun z : Int32 × Int32 => F_X12_unnoticed_l9 v0 v1 z.1 z.2 (setI h v0 0 (0 : Int32))) FU ((0 : Int32), (0 : Int32))) (fun z => sm z (fun w43 => (if v1 = 0 then F_X12_unnoticed_b133 w43 (setI h v0 0 (0 : Int32)) else F_X12_unnoticed_b133 (-1 : Int32) (setI h v0 0 (0 : Int32)))) (fun z => un4 z fun w45 w46 w47 w48 => some (((((512 : Int32) * w45) + ((64 : Int32) * w46)) + ((8 : Int32) * w47)) + w48, setI h v0 0 (0 : Int32))))
set_option maxHeartbeats 4000000 in
set_option maxRecDepth 100000 in
theorem r_X12_unnoticed_b0 (v0 : Nat) (v1 : Int32) (h : Hp) {x : Cx} {r : Int32} {hz : Hp} (e : F_X12_unnoticed_b0 v0 v1 h = some (r, hz)) (hF : Fin9 M_X12_unnoticed x (some .int) (some (.int r)) hz) : V M_X12_unnoticed x 2 0 [(0, .ref v0), (1, .int v1)] [] h 0 0 := by
  unfold F_X12_unnoticed_b0 at e
  refine V_aload_n (pc := 0) (i := 0) dX12_unnoticed_0 rfl rfl ?_
  refine V_iconst (pc := 1) (v := (0 : Int32)) dX12_unnoticed_1 (by decide) ?_
  obtain ⟨g1, e⟩ := gd_some e
  refine V_putI (pc := 2) (ci := 11) (k := 0) dX12_unnoticed_2 fp_X12_3 rfl (of_decide_eq_true g1) ?_
  refine V_iconst (pc := 5) (v := (0 : Int32)) dX12_unnoticed_5 (by decide) ?_
  refine V_istore_n (pc := 6) (i := 2) (lv' := [(2, .int (0 : Int32)), (0, .ref v0), (1, .int v1)]) dX12_unnoticed_6 rfl (by decide) rfl ?_
  refine V_iconst (pc := 7) (v := (0 : Int32)) dX12_unnoticed_7 (by decide) ?_
  refine V_istore_n (pc := 8) (i := 3) (lv' := [(3, .int (0 : Int32)), (2, .int (0 : Int32)), (0, .ref v0), (1, .int v1)]) dX12_unnoticed_8 rfl (by decide) rfl ?_
  refine V_pick [2, 3, 1, 0] rfl ?_
  obtain ⟨y49, g50, e⟩ := ob_some e
  refine iter_V (P := fun z : Int32 × Int32 => V M_X12_unnoticed x 2 9 [(0, .ref v0), (1, .int v1), (2, .int z.1), (3, .int z.2)] [] (setI h v0 0 (0 : Int32)) 0 0) (E := fun z => Sum.elim (fun z : Int32 => V M_X12_unnoticed x 2 124 [(1, .int v1), (2, .int z)] [] (setI h v0 0 (0 : Int32)) 0 0) (fun z : Int32 × Int32 × Int32 × Int32 => V M_X12_unnoticed x 2 76 [(3, .int z.1), (4, .int z.2.1), (5, .int z.2.2.1), (6, .int z.2.2.2)] [] (setI h v0 0 (0 : Int32)) 0 0) z) (fun z o e9 k1 k2 => r_X12_unnoticed_l9 v0 v1 z.1 z.2 (setI h v0 0 (0 : Int32)) e9 (fun z hz9 => k1 z hz9) (fun z hz9 => k2 _ hz9) (fun z hz9 => k2 _ hz9)) _ _ _ g50 ?_
  clear g50
  rcases y49 with y51 | y52
  · obtain ⟨w43, rfl⟩ : ∃ q, q = y51 := ⟨_, rfl⟩
    replace e : ((if v1 = 0 then F_X12_unnoticed_b133 w43 (setI h v0 0 (0 : Int32)) else F_X12_unnoticed_b133 (-1 : Int32) (setI h v0 0 (0 : Int32)))) = some (r, hz) := e
    show V M_X12_unnoticed x 2 124 [(1, .int v1), (2, .int w43)] [] (setI h v0 0 (0 : Int32)) 0 0
    refine V_iload_n (pc := 124) (i := 1) dX12_unnoticed_124 rfl rfl ?_
    refine V_if_eq (pc := 125) (tgt := 132) dX12_unnoticed_125 (by decide) (fun c44 => ?_) (fun c44 => ?_)
    · rw [if_pos c44] at e
      refine V_pick [1] rfl ?_
      refine V_iload_n (pc := 132) (i := 2) dX12_unnoticed_132 rfl rfl ?_
      exact V_pick [] rfl (r_X12_unnoticed_b133 w43 (setI h v0 0 (0 : Int32)) e hF)
    · rw [if_neg c44] at e
      refine V_pick [] rfl ?_
      refine V_iconst (pc := 128) (v := (-1 : Int32)) dX12_unnoticed_128 (by decide) ?_
      refine V_goto (pc := 129) (tgt := 133) dX12_unnoticed_129 (by decide) ?_
      exact V_pick [] rfl (r_X12_unnoticed_b133 (-1 : Int32) (setI h v0 0 (0 : Int32)) e hF)
  · obtain ⟨w45, w46, w47, w48⟩ := y52
    replace e : (some (((((512 : Int32) * w45) + ((64 : Int32) * w46)) + ((8 : Int32) * w47)) + w48, setI h v0 0 (0 : Int32))) = some (r, hz) := e
    show V M_X12_unnoticed x 2 76 [(3, .int w45), (4, .int w46), (5, .int w47), (6, .int w48)] [] (setI h v0 0 (0 : Int32)) 0 0
    refine V_sipush (pc := 76) (v := (512 : Int32)) dX12_unnoticed_76 (by decide) ?_
    refine V_iload_n (pc := 79) (i := 3) dX12_unnoticed_79 rfl rfl ?_
    refine V_imul (pc := 80) dX12_unnoticed_80 ?_
    refine V_bipush (pc := 81) (v := (64 : Int32)) dX12_unnoticed_81 (by decide) ?_
    refine V_iload (pc := 83) (i := 4) dX12_unnoticed_83 rfl ?_
    refine V_imul (pc := 85) dX12_unnoticed_85 ?_
    refine V_iadd (pc := 86) dX12_unnoticed_86 ?_
    refine V_bipush (pc := 87) (v := (8 : Int32)) dX12_unnoticed_87 (by decide) ?_
    refine V_iload (pc := 89) (i := 5) dX12_unnoticed_89 rfl ?_
    refine V_imul (pc := 91) dX12_unnoticed_91 ?_
    refine V_iadd (pc := 92) dX12_unnoticed_92 ?_
    refine V_iload (pc := 93) (i := 6) dX12_unnoticed_93 rfl ?_
    refine V_iadd (pc := 95) dX12_unnoticed_95 ?_
    cases e
    exact V_iret (pc := 96) dX12_unnoticed_96 hF
def F_X12_unnoticed (v0 : Nat) (v1 : Int32) (h : Hp) : Option (Int32 × Hp) := F_X12_unnoticed_b0 v0 v1 h
theorem c_X12_unnoticed {l : Launch} (v0 : Nat) (v1 : Int32) (h : Hp) {r : Int32} {hz : Hp} (e : F_X12_unnoticed v0 v1 h = some (r, hz)) : Ct l yX12_unnoticed M_X12_unnoticed (some .int) 2 [.ref v0, .int v1] h 0 0 (some (.int r)) hz :=
  Ct_of rfl rfl (fun q => by cases q) (Nat.le_of_ble_eq_true rfl) (fun x _ hF => V_pick [0, 1] rfl (r_X12_unnoticed_b0 v0 v1 h e hF))
theorem dX12_read_0 : decode cX12_read 0 = .ok (.aload_n 0, 1) := by decide +kernel
theorem dX12_read_1 : decode cX12_read 1 = .ok (.iconst 0, 1) := by decide +kernel
theorem dX12_read_2 : decode cX12_read 2 = .ok (.putfield 3, 3) := by decide +kernel
theorem dX12_read_5 : decode cX12_read 5 = .ok (.aload_n 0, 1) := by decide +kernel
theorem dX12_read_6 : decode cX12_read 6 = .ok (.aload_n 0, 1) := by decide +kernel
theorem dX12_read_7 : decode cX12_read 7 = .ok (.getfield 13, 3) := by decide +kernel
theorem dX12_read_10 : decode cX12_read 10 = .ok (.iconst 5, 1) := by decide +kernel
theorem dX12_read_11 : decode cX12_read 11 = .ok (.iaload, 1) := by decide +kernel
theorem dX12_read_12 : decode cX12_read 12 = .ok (.bipush 8, 2) := by decide +kernel
theorem dX12_read_14 : decode cX12_read 14 = .ok (.if_icmp .ne 7, 3) := by decide +kernel
theorem dX12_read_17 : decode cX12_read 17 = .ok (.iconst 1, 1) := by decide +kernel
theorem dX12_read_18 : decode cX12_read 18 = .ok (.goto 4, 3) := by decide +kernel
theorem dX12_read_21 : decode cX12_read 21 = .ok (.iconst 0, 1) := by decide +kernel
theorem dX12_read_22 : decode cX12_read 22 = .ok (.iconst 1, 1) := by decide +kernel
theorem dX12_read_23 : decode cX12_read 23 = .ok (.invokevirtual 240, 3) := by decide +kernel
theorem dX12_read_26 : decode cX12_read 26 = .ok (.ifCond .eq 5, 3) := by decide +kernel
theorem dX12_read_29 : decode cX12_read 29 = .ok (.iconst 0, 1) := by decide +kernel
theorem dX12_read_30 : decode cX12_read 30 = .ok (.ireturn, 1) := by decide +kernel
theorem dX12_read_31 : decode cX12_read 31 = .ok (.sipush 131, 3) := by decide +kernel
theorem dX12_read_34 : decode cX12_read 34 = .ok (.iconst 2, 1) := by decide +kernel
theorem dX12_read_35 : decode cX12_read 35 = .ok (.aload_n 0, 1) := by decide +kernel
theorem dX12_read_36 : decode cX12_read 36 = .ok (.getfield 13, 3) := by decide +kernel
theorem dX12_read_39 : decode cX12_read 39 = .ok (.iconst 5, 1) := by decide +kernel
theorem dX12_read_40 : decode cX12_read 40 = .ok (.iaload, 1) := by decide +kernel
theorem dX12_read_41 : decode cX12_read 41 = .ok (.imul, 1) := by decide +kernel
theorem dX12_read_42 : decode cX12_read 42 = .ok (.iadd, 1) := by decide +kernel
theorem dX12_read_43 : decode cX12_read 43 = .ok (.istore_n 3, 1) := by decide +kernel
theorem dX12_read_44 : decode cX12_read 44 = .ok (.aload_n 0, 1) := by decide +kernel
theorem dX12_read_45 : decode cX12_read 45 = .ok (.getfield 13, 3) := by decide +kernel
theorem dX12_read_48 : decode cX12_read 48 = .ok (.iload_n 3, 1) := by decide +kernel
theorem dX12_read_49 : decode cX12_read 49 = .ok (.iload_n 1, 1) := by decide +kernel
theorem dX12_read_50 : decode cX12_read 50 = .ok (.iastore, 1) := by decide +kernel
theorem dX12_read_51 : decode cX12_read 51 = .ok (.aload_n 0, 1) := by decide +kernel
theorem dX12_read_52 : decode cX12_read 52 = .ok (.getfield 13, 3) := by decide +kernel
theorem dX12_read_55 : decode cX12_read 55 = .ok (.iload_n 3, 1) := by decide +kernel
theorem dX12_read_56 : decode cX12_read 56 = .ok (.iconst 1, 1) := by decide +kernel
theorem dX12_read_57 : decode cX12_read 57 = .ok (.iadd, 1) := by decide +kernel
theorem dX12_read_58 : decode cX12_read 58 = .ok (.iload_n 2, 1) := by decide +kernel
theorem dX12_read_59 : decode cX12_read 59 = .ok (.iastore, 1) := by decide +kernel
theorem dX12_read_60 : decode cX12_read 60 = .ok (.aload_n 0, 1) := by decide +kernel
theorem dX12_read_61 : decode cX12_read 61 = .ok (.getfield 13, 3) := by decide +kernel
theorem dX12_read_64 : decode cX12_read 64 = .ok (.iconst 5, 1) := by decide +kernel
theorem dX12_read_65 : decode cX12_read 65 = .ok (.dup2, 1) := by decide +kernel
theorem dX12_read_66 : decode cX12_read 66 = .ok (.iaload, 1) := by decide +kernel
theorem dX12_read_67 : decode cX12_read 67 = .ok (.iconst 1, 1) := by decide +kernel
theorem dX12_read_68 : decode cX12_read 68 = .ok (.iadd, 1) := by decide +kernel
theorem dX12_read_69 : decode cX12_read 69 = .ok (.iastore, 1) := by decide +kernel
theorem dX12_read_70 : decode cX12_read 70 = .ok (.aload_n 0, 1) := by decide +kernel
theorem dX12_read_71 : decode cX12_read 71 = .ok (.getfield 13, 3) := by decide +kernel
theorem dX12_read_74 : decode cX12_read 74 = .ok (.iconst 5, 1) := by decide +kernel
theorem dX12_read_75 : decode cX12_read 75 = .ok (.iaload, 1) := by decide +kernel
theorem dX12_read_76 : decode cX12_read 76 = .ok (.ireturn, 1) := by decide +kernel
set_option maxRecDepth 100000 in
def F_X12_read_b22 (v0 : Nat) (v1 : Int32) (v2 : Int32) (t0 : Nat) (t1 : Int32) (h : Hp) : Option (Int32 × Hp) :=
  ob2 (F_X12_throwsIf t0 t1 (1 : Int32) h) fun r7 h8 => gd (decide (kd h t0 = 11)) <| (if r7 = 0 then gd (decide (kd h8 v0 = 11)) <| ob (zR h8 v0 1) fun q11 => gd (decide (kd h8 q11 = 13)) <| gd (ix (5 : Int32) (zl h8 q11)) <| ob (zR h8 v0 1) fun q15 => gd (decide (kd h8 q15 = 13)) <| gd (ix ((131 : Int32) + ((2 : Int32) * (zI h8 q11 ((5 : Int32)).toNatClampNeg))) (zl h8 q15)) <| ob (zR (setI h8 q15 ((131 : Int32) + ((2 : Int32) * (zI h8 q11 ((5 : Int32)).toNatClampNeg))).toNatClampNeg v1) v0 1) fun q19 => gd (decide (kd (setI h8 q15 ((131 : Int32) + ((2 : Int32) * (zI h8 q11 ((5 : Int32)).toNatClampNeg))).toNatClampNeg v1) q19 = 13)) <| gd (ix (((131 : Int32) + ((2 : Int32) * (zI h8 q11 ((5 : Int32)).toNatClampNeg))) + (1 : Int32)) (zl (setI h8 q15 ((131 : Int32) + ((2 : Int32) * (zI h8 q11 ((5 : Int32)).toNatClampNeg))).toNatClampNeg v1) q19)) <| ob (some (setI (setI h8 q15 ((131 : Int32) + ((2 : Int32) * (zI h8 q11 ((5 : Int32)).toNatClampNeg))).toNatClampNeg v1) q19 (((131 : Int32) + ((2 : Int32) * (zI h8 q11 ((5 : Int32)).toNatClampNeg))) + (1 : Int32)).toNatClampNeg v2)) fun h23 => ob (zR h23 v0 1) fun q29 => gd (decide (kd h23 q29 = 13)) <| gd (ix (5 : Int32) (zl h23 q29)) <| gd (ix (5 : Int32) (zl h23 q29)) <| ob (zR (setI h23 q29 ((5 : Int32)).toNatClampNeg ((zI h23 q29 ((5 : Int32)).toNatClampNeg) + (1 : Int32))) v0 1) fun q34 => gd (decide (kd (setI h23 q29 ((5 : Int32)).toNatClampNeg ((zI h23 q29 ((5 : Int32)).toNatClampNeg) + (1 : Int32))) q34 = 13)) <| gd (ix (5 : Int32) (zl (setI h23 q29 ((5 : Int32)).toNatClampNeg ((zI h23 q29 ((5 : Int32)).toNatClampNeg) + (1 : Int32))) q34)) <| some (zI (setI h23 q29 ((5 : Int32)).toNatClampNeg ((zI h23 q29 ((5 : Int32)).toNatClampNeg) + (1 : Int32))) q34 ((5 : Int32)).toNatClampNeg, setI h23 q29 ((5 : Int32)).toNatClampNeg ((zI h23 q29 ((5 : Int32)).toNatClampNeg) + (1 : Int32))) else some ((0 : Int32), h8))
set_option maxHeartbeats 4000000 in
set_option maxRecDepth 100000 in
theorem r_X12_read_b22 (v0 : Nat) (v1 : Int32) (v2 : Int32) (t0 : Nat) (t1 : Int32) (h : Hp) {x : Cx} {r : Int32} {hz : Hp} (e : F_X12_read_b22 v0 v1 v2 t0 t1 h = some (r, hz)) (hF : Fin9 M_X12_read x (some .int) (some (.int r)) hz) : V M_X12_read x 1 22 [(0, .ref v0), (1, .int v1), (2, .int v2)] [.int t1, .ref t0] h 0 0 := by
  unfold F_X12_read_b22 at e
  refine V_iconst (pc := 22) (v := (1 : Int32)) dX12_read_22 (by decide) ?_
  obtain ⟨r7, h8, g6, e⟩ := ob2_some e
  obtain ⟨g9, e⟩ := gd_some e
  refine V_callV (pc := 23) (bc := 0) (bs := 0) (mc := 0) (ms := 0) (st := []) (As := [.int t1, .int (1 : Int32)]) (a := t0) (h' := h8) (r := some (.int r7)) dX12_read_23 ml_X12_240 (ci := 11) rfl (of_decide_eq_true g9) rfl rfl (Nat.le_of_ble_eq_true rfl) (d' := 0) (by decide) (c_X12_throwsIf (l := x.2.1) t0 t1 (1 : Int32) h g6) ?_
  refine V_if_eq (pc := 26) (tgt := 31) dX12_read_26 (by decide) (fun c38 => ?_) (fun c38 => ?_)
  · rw [if_pos c38] at e
    refine V_pick [0, 1, 2] rfl ?_
    refine V_sipush (pc := 31) (v := (131 : Int32)) dX12_read_31 (by decide) ?_
    refine V_iconst (pc := 34) (v := (2 : Int32)) dX12_read_34 (by decide) ?_
    refine V_aload_n (pc := 35) (i := 0) dX12_read_35 rfl rfl ?_
    obtain ⟨g10, e⟩ := gd_some e
    obtain ⟨q11, g12, e⟩ := ob_some e
    refine V_getR (pc := 36) (ci := 11) (k := 1) (b := q11) dX12_read_36 fl_X12_13 rfl (of_decide_eq_true g10) g12 ?_
    refine V_iconst (pc := 39) (v := (5 : Int32)) dX12_read_39 (by decide) ?_
    obtain ⟨g13, e⟩ := gd_some e
    obtain ⟨g14, e⟩ := gd_some e
    refine V_iald (pc := 40) dX12_read_40 (of_decide_eq_true g13) (ix_in g14) ?_
    refine V_imul (pc := 41) dX12_read_41 ?_
    refine V_iadd (pc := 42) dX12_read_42 ?_
    refine V_istore_n (pc := 43) (i := 3) (lv' := [(3, .int ((131 : Int32) + ((2 : Int32) * (zI h8 q11 ((5 : Int32)).toNatClampNeg)))), (0, .ref v0), (1, .int v1), (2, .int v2)]) dX12_read_43 rfl (by decide) rfl ?_
    refine V_aload_n (pc := 44) (i := 0) dX12_read_44 rfl rfl ?_
    obtain ⟨q15, g16, e⟩ := ob_some e
    refine V_getR (pc := 45) (ci := 11) (k := 1) (b := q15) dX12_read_45 fl_X12_13 rfl (of_decide_eq_true g10) g16 ?_
    refine V_iload_n (pc := 48) (i := 3) dX12_read_48 rfl rfl ?_
    refine V_iload_n (pc := 49) (i := 1) dX12_read_49 rfl rfl ?_
    obtain ⟨g17, e⟩ := gd_some e
    obtain ⟨g18, e⟩ := gd_some e
    refine V_iast (pc := 50) dX12_read_50 (of_decide_eq_true g17) (ix_in g18) ?_
    refine V_aload_n (pc := 51) (i := 0) dX12_read_51 rfl rfl ?_
    obtain ⟨q19, g20, e⟩ := ob_some e
    refine V_getR (pc := 52) (ci := 11) (k := 1) (b := q19) dX12_read_52 fl_X12_13 rfl (kd_sI (of_decide_eq_true g10)) g20 ?_
    refine V_iload_n (pc := 55) (i := 3) dX12_read_55 rfl rfl ?_
    refine V_iconst (pc := 56) (v := (1 : Int32)) dX12_read_56 (by decide) ?_
    refine V_iadd (pc := 57) dX12_read_57 ?_
    refine V_iload_n (pc := 58) (i := 2) dX12_read_58 rfl rfl ?_
    obtain ⟨g21, e⟩ := gd_some e
    obtain ⟨g22, e⟩ := gd_some e
    refine V_iast (pc := 59) dX12_read_59 (of_decide_eq_true g21) (ix_in g22) ?_
    obtain ⟨h23, g24, e⟩ := ob_some e
    refine V_hp (Option.some.inj g24) ?_
    have k25 : kd h23 v0 = 11 := kd_eq (h := (setI (setI h8 q15 ((131 : Int32) + ((2 : Int32) * (zI h8 q11 ((5 : Int32)).toNatClampNeg))).toNatClampNeg v1) q19 (((131 : Int32) + ((2 : Int32) * (zI h8 q11 ((5 : Int32)).toNatClampNeg))) + (1 : Int32)).toNatClampNeg v2)) (Option.some.inj g24) (kd_sI (kd_sI (of_decide_eq_true g10)))
    have k26 : kd h23 q11 = 13 := kd_eq (h := (setI (setI h8 q15 ((131 : Int32) + ((2 : Int32) * (zI h8 q11 ((5 : Int32)).toNatClampNeg))).toNatClampNeg v1) q19 (((131 : Int32) + ((2 : Int32) * (zI h8 q11 ((5 : Int32)).toNatClampNeg))) + (1 : Int32)).toNatClampNeg v2)) (Option.some.inj g24) (kd_sI (kd_sI (of_decide_eq_true g13)))
    have k27 : kd h23 q15 = 13 := kd_eq (h := (setI (setI h8 q15 ((131 : Int32) + ((2 : Int32) * (zI h8 q11 ((5 : Int32)).toNatClampNeg))).toNatClampNeg v1) q19 (((131 : Int32) + ((2 : Int32) * (zI h8 q11 ((5 : Int32)).toNatClampNeg))) + (1 : Int32)).toNatClampNeg v2)) (Option.some.inj g24) (kd_sI (kd_sI (of_decide_eq_true g17)))
    have k28 : kd h23 q19 = 13 := kd_eq (h := (setI (setI h8 q15 ((131 : Int32) + ((2 : Int32) * (zI h8 q11 ((5 : Int32)).toNatClampNeg))).toNatClampNeg v1) q19 (((131 : Int32) + ((2 : Int32) * (zI h8 q11 ((5 : Int32)).toNatClampNeg))) + (1 : Int32)).toNatClampNeg v2)) (Option.some.inj g24) (kd_sI (of_decide_eq_true g21))
    refine V_aload_n (pc := 60) (i := 0) dX12_read_60 rfl rfl ?_
    obtain ⟨q29, g30, e⟩ := ob_some e
    refine V_getR (pc := 61) (ci := 11) (k := 1) (b := q29) dX12_read_61 fl_X12_13 rfl k25 g30 ?_
    refine V_iconst (pc := 64) (v := (5 : Int32)) dX12_read_64 (by decide) ?_
    refine V_dup2 (pc := 65) dX12_read_65 rfl rfl ?_
    obtain ⟨g31, e⟩ := gd_some e
    obtain ⟨g32, e⟩ := gd_some e
    refine V_iald (pc := 66) dX12_read_66 (of_decide_eq_true g31) (ix_in g32) ?_
    refine V_iconst (pc := 67) (v := (1 : Int32)) dX12_read_67 (by decide) ?_
    refine V_iadd (pc := 68) dX12_read_68 ?_
    obtain ⟨g33, e⟩ := gd_some e
    refine V_iast (pc := 69) dX12_read_69 (of_decide_eq_true g31) (ix_in g33) ?_
    refine V_aload_n (pc := 70) (i := 0) dX12_read_70 rfl rfl ?_
    obtain ⟨q34, g35, e⟩ := ob_some e
    refine V_getR (pc := 71) (ci := 11) (k := 1) (b := q34) dX12_read_71 fl_X12_13 rfl (kd_sI k25) g35 ?_
    refine V_iconst (pc := 74) (v := (5 : Int32)) dX12_read_74 (by decide) ?_
    obtain ⟨g36, e⟩ := gd_some e
    obtain ⟨g37, e⟩ := gd_some e
    refine V_iald (pc := 75) dX12_read_75 (of_decide_eq_true g36) (ix_in g37) ?_
    cases e
    exact V_iret (pc := 76) dX12_read_76 hF
  · rw [if_neg c38] at e
    refine V_pick [] rfl ?_
    refine V_iconst (pc := 29) (v := (0 : Int32)) dX12_read_29 (by decide) ?_
    cases e
    exact V_iret (pc := 30) dX12_read_30 hF
set_option maxRecDepth 100000 in
def F_X12_read_b0 (v0 : Nat) (v1 : Int32) (v2 : Int32) (h : Hp) : Option (Int32 × Hp) :=
  gd (decide (kd h v0 = 11)) <| ob (zR (setI h v0 0 (0 : Int32)) v0 1) fun q2 => gd (decide (kd (setI h v0 0 (0 : Int32)) q2 = 13)) <| gd (ix (5 : Int32) (zl (setI h v0 0 (0 : Int32)) q2)) <| (if (zI (setI h v0 0 (0 : Int32)) q2 ((5 : Int32)).toNatClampNeg) = (8 : Int32) then F_X12_read_b22 v0 v1 v2 v0 (1 : Int32) (setI h v0 0 (0 : Int32)) else F_X12_read_b22 v0 v1 v2 v0 (0 : Int32) (setI h v0 0 (0 : Int32)))
set_option maxHeartbeats 4000000 in
set_option maxRecDepth 100000 in
theorem r_X12_read_b0 (v0 : Nat) (v1 : Int32) (v2 : Int32) (h : Hp) {x : Cx} {r : Int32} {hz : Hp} (e : F_X12_read_b0 v0 v1 v2 h = some (r, hz)) (hF : Fin9 M_X12_read x (some .int) (some (.int r)) hz) : V M_X12_read x 1 0 [(0, .ref v0), (1, .int v1), (2, .int v2)] [] h 0 0 := by
  unfold F_X12_read_b0 at e
  refine V_aload_n (pc := 0) (i := 0) dX12_read_0 rfl rfl ?_
  refine V_iconst (pc := 1) (v := (0 : Int32)) dX12_read_1 (by decide) ?_
  obtain ⟨g1, e⟩ := gd_some e
  refine V_putI (pc := 2) (ci := 11) (k := 0) dX12_read_2 fp_X12_3 rfl (of_decide_eq_true g1) ?_
  refine V_aload_n (pc := 5) (i := 0) dX12_read_5 rfl rfl ?_
  refine V_aload_n (pc := 6) (i := 0) dX12_read_6 rfl rfl ?_
  obtain ⟨q2, g3, e⟩ := ob_some e
  refine V_getR (pc := 7) (ci := 11) (k := 1) (b := q2) dX12_read_7 fl_X12_13 rfl (kd_sI (of_decide_eq_true g1)) g3 ?_
  refine V_iconst (pc := 10) (v := (5 : Int32)) dX12_read_10 (by decide) ?_
  obtain ⟨g4, e⟩ := gd_some e
  obtain ⟨g5, e⟩ := gd_some e
  refine V_iald (pc := 11) dX12_read_11 (of_decide_eq_true g4) (ix_in g5) ?_
  refine V_bipush (pc := 12) (v := (8 : Int32)) dX12_read_12 (by decide) ?_
  refine V_icmp_ne (pc := 14) (tgt := 21) dX12_read_14 (by decide) (fun c39 => ?_) (fun c39 => ?_)
  · rw [if_neg c39] at e
    refine V_pick [0, 1, 2] rfl ?_
    refine V_iconst (pc := 21) (v := (0 : Int32)) dX12_read_21 (by decide) ?_
    exact V_pick [0, 1, 2] rfl (r_X12_read_b22 v0 v1 v2 v0 (0 : Int32) (setI h v0 0 (0 : Int32)) e hF)
  · rw [if_pos c39] at e
    refine V_pick [0, 1, 2] rfl ?_
    refine V_iconst (pc := 17) (v := (1 : Int32)) dX12_read_17 (by decide) ?_
    refine V_goto (pc := 18) (tgt := 22) dX12_read_18 (by decide) ?_
    exact V_pick [0, 1, 2] rfl (r_X12_read_b22 v0 v1 v2 v0 (1 : Int32) (setI h v0 0 (0 : Int32)) e hF)
def F_X12_read (v0 : Nat) (v1 : Int32) (v2 : Int32) (h : Hp) : Option (Int32 × Hp) := F_X12_read_b0 v0 v1 v2 h
theorem c_X12_read {l : Launch} (v0 : Nat) (v1 : Int32) (v2 : Int32) (h : Hp) {r : Int32} {hz : Hp} (e : F_X12_read v0 v1 v2 h = some (r, hz)) : Ct l yX12_read M_X12_read (some .int) 1 [.ref v0, .int v1, .int v2] h 0 0 (some (.int r)) hz :=
  Ct_of rfl rfl (fun q => by cases q) (Nat.le_of_ble_eq_true rfl) (fun x _ hF => V_pick [0, 1, 2] rfl (r_X12_read_b0 v0 v1 v2 h e hF))
theorem dX12_noReading_0 : decode cX12_noReading 0 = .ok (.iload_n 1, 1) := by decide +kernel
theorem dX12_noReading_1 : decode cX12_noReading 1 = .ok (.iconst 0, 1) := by decide +kernel
theorem dX12_noReading_2 : decode cX12_noReading 2 = .ok (.aload_n 0, 1) := by decide +kernel
theorem dX12_noReading_3 : decode cX12_noReading 3 = .ok (.getfield 13, 3) := by decide +kernel
theorem dX12_noReading_6 : decode cX12_noReading 6 = .ok (.iconst 5, 1) := by decide +kernel
theorem dX12_noReading_7 : decode cX12_noReading 7 = .ok (.iaload, 1) := by decide +kernel
theorem dX12_noReading_8 : decode cX12_noReading 8 = .ok (.iconst 1, 1) := by decide +kernel
theorem dX12_noReading_9 : decode cX12_noReading 9 = .ok (.isub, 1) := by decide +kernel
theorem dX12_noReading_10 : decode cX12_noReading 10 = .ok (.invokestatic 64, 3) := by decide +kernel
theorem dX12_noReading_13 : decode cX12_noReading 13 = .ok (.ifCond .ne 7, 3) := by decide +kernel
theorem dX12_noReading_16 : decode cX12_noReading 16 = .ok (.iconst 1, 1) := by decide +kernel
theorem dX12_noReading_17 : decode cX12_noReading 17 = .ok (.goto 4, 3) := by decide +kernel
theorem dX12_noReading_20 : decode cX12_noReading 20 = .ok (.iconst 0, 1) := by decide +kernel
theorem dX12_noReading_21 : decode cX12_noReading 21 = .ok (.ireturn, 1) := by decide +kernel
set_option maxRecDepth 100000 in
def F_X12_noReading_b21 (t0 : Int32) (h : Hp) : Option Int32 :=
  gd (decide (t0 = 0 ∨ t0 = 1)) <| some t0
set_option maxHeartbeats 4000000 in
set_option maxRecDepth 100000 in
theorem r_X12_noReading_b21 (t0 : Int32) (h : Hp) {x : Cx} {r : Int32} (e : F_X12_noReading_b21 t0 h = some r) (hF : Fin9 M_X12_noReading x (some .boolean) (some (.int r)) h) : V M_X12_noReading x 1 21 [] [.int t0] h 0 0 := by
  unfold F_X12_noReading_b21 at e
  obtain ⟨g8, e⟩ := gd_some e
  cases e
  exact V_zret (pc := 21) dX12_noReading_21 (z01 (of_decide_eq_true g8)) hF
set_option maxRecDepth 100000 in
def F_X12_noReading_b0 (v0 : Nat) (v1 : Int32) (h : Hp) : Option Int32 :=
  gd (decide (kd h v0 = 11)) <| ob (zR h v0 1) fun q2 => gd (decide (kd h q2 = 13)) <| gd (ix (5 : Int32) (zl h q2)) <| ob (F_X12_in v1 (0 : Int32) ((zI h q2 ((5 : Int32)).toNatClampNeg) - (1 : Int32)) h) fun r7 => (if r7 = 0 then F_X12_noReading_b21 (1 : Int32) h else F_X12_noReading_b21 (0 : Int32) h)
set_option maxHeartbeats 4000000 in
set_option maxRecDepth 100000 in
theorem r_X12_noReading_b0 (v0 : Nat) (v1 : Int32) (h : Hp) {x : Cx} {r : Int32} (e : F_X12_noReading_b0 v0 v1 h = some r) (hF : Fin9 M_X12_noReading x (some .boolean) (some (.int r)) h) : V M_X12_noReading x 1 0 [(0, .ref v0), (1, .int v1)] [] h 0 0 := by
  unfold F_X12_noReading_b0 at e
  refine V_iload_n (pc := 0) (i := 1) dX12_noReading_0 rfl rfl ?_
  refine V_iconst (pc := 1) (v := (0 : Int32)) dX12_noReading_1 (by decide) ?_
  refine V_aload_n (pc := 2) (i := 0) dX12_noReading_2 rfl rfl ?_
  obtain ⟨g1, e⟩ := gd_some e
  obtain ⟨q2, g3, e⟩ := ob_some e
  refine V_getR (pc := 3) (ci := 11) (k := 1) (b := q2) dX12_noReading_3 fl_X12_13 rfl (of_decide_eq_true g1) g3 ?_
  refine V_iconst (pc := 6) (v := (5 : Int32)) dX12_noReading_6 (by decide) ?_
  obtain ⟨g4, e⟩ := gd_some e
  obtain ⟨g5, e⟩ := gd_some e
  refine V_iald (pc := 7) dX12_noReading_7 (of_decide_eq_true g4) (ix_in g5) ?_
  refine V_iconst (pc := 8) (v := (1 : Int32)) dX12_noReading_8 (by decide) ?_
  refine V_isub (pc := 9) dX12_noReading_9 ?_
  obtain ⟨r7, g6, e⟩ := ob_some e
  refine V_callS (pc := 10) (bc := 0) (bs := 0) (mc := 0) (ms := 0) (st := []) (As := [.int v1, .int (0 : Int32), .int ((zI h q2 ((5 : Int32)).toNatClampNeg) - (1 : Int32))]) (h' := h) (r := some (.int r7)) dX12_noReading_10 ml_X12_64 rfl rfl (Nat.le_of_ble_eq_true rfl) (d' := 0) (by decide) (c_X12_in (l := x.2.1) v1 (0 : Int32) ((zI h q2 ((5 : Int32)).toNatClampNeg) - (1 : Int32)) h g6) ?_
  refine V_if_ne (pc := 13) (tgt := 20) dX12_noReading_13 (by decide) (fun c9 => ?_) (fun c9 => ?_)
  · rw [if_neg c9] at e
    refine V_pick [] rfl ?_
    refine V_iconst (pc := 20) (v := (0 : Int32)) dX12_noReading_20 (by decide) ?_
    exact V_pick [] rfl (r_X12_noReading_b21 (0 : Int32) h e hF)
  · rw [if_pos c9] at e
    refine V_pick [] rfl ?_
    refine V_iconst (pc := 16) (v := (1 : Int32)) dX12_noReading_16 (by decide) ?_
    refine V_goto (pc := 17) (tgt := 21) dX12_noReading_17 (by decide) ?_
    exact V_pick [] rfl (r_X12_noReading_b21 (1 : Int32) h e hF)
def F_X12_noReading (v0 : Nat) (v1 : Int32) (h : Hp) : Option Int32 := F_X12_noReading_b0 v0 v1 h
theorem c_X12_noReading {l : Launch} (v0 : Nat) (v1 : Int32) (h : Hp) {r : Int32} (e : F_X12_noReading v0 v1 h = some r) : Ct l yX12_noReading M_X12_noReading (some .boolean) 1 [.ref v0, .int v1] h 0 0 (some (.int r)) h :=
  Ct_of rfl rfl (fun q => by cases q) (Nat.le_of_ble_eq_true rfl) (fun x _ hF => V_pick [0, 1] rfl (r_X12_noReading_b0 v0 v1 h e hF))
theorem dX12_weighed_0 : decode cX12_weighed 0 = .ok (.aload_n 0, 1) := by decide +kernel
theorem dX12_weighed_1 : decode cX12_weighed 1 = .ok (.iconst 0, 1) := by decide +kernel
theorem dX12_weighed_2 : decode cX12_weighed 2 = .ok (.putfield 3, 3) := by decide +kernel
theorem dX12_weighed_5 : decode cX12_weighed 5 = .ok (.aload_n 0, 1) := by decide +kernel
theorem dX12_weighed_6 : decode cX12_weighed 6 = .ok (.aload_n 0, 1) := by decide +kernel
theorem dX12_weighed_7 : decode cX12_weighed 7 = .ok (.iload_n 1, 1) := by decide +kernel
theorem dX12_weighed_8 : decode cX12_weighed 8 = .ok (.invokevirtual 287, 3) := by decide +kernel
theorem dX12_weighed_11 : decode cX12_weighed 11 = .ok (.iconst 1, 1) := by decide +kernel
theorem dX12_weighed_12 : decode cX12_weighed 12 = .ok (.invokevirtual 240, 3) := by decide +kernel
theorem dX12_weighed_15 : decode cX12_weighed 15 = .ok (.ifCond .eq 5, 3) := by decide +kernel
theorem dX12_weighed_18 : decode cX12_weighed 18 = .ok (.iconst 0, 1) := by decide +kernel
theorem dX12_weighed_19 : decode cX12_weighed 19 = .ok (.ireturn, 1) := by decide +kernel
theorem dX12_weighed_20 : decode cX12_weighed 20 = .ok (.aload_n 0, 1) := by decide +kernel
theorem dX12_weighed_21 : decode cX12_weighed 21 = .ok (.invokevirtual 290, 3) := by decide +kernel
theorem dX12_weighed_24 : decode cX12_weighed 24 = .ok (.iload_n 2, 1) := by decide +kernel
theorem dX12_weighed_25 : decode cX12_weighed 25 = .ok (.i2l, 1) := by decide +kernel
theorem dX12_weighed_26 : decode cX12_weighed 26 = .ok (.aload_n 0, 1) := by decide +kernel
theorem dX12_weighed_27 : decode cX12_weighed 27 = .ok (.iconst 0, 1) := by decide +kernel
theorem dX12_weighed_28 : decode cX12_weighed 28 = .ok (.invokevirtual 278, 3) := by decide +kernel
theorem dX12_weighed_31 : decode cX12_weighed 31 = .ok (.i2l, 1) := by decide +kernel
theorem dX12_weighed_32 : decode cX12_weighed 32 = .ok (.lsub, 1) := by decide +kernel
theorem dX12_weighed_33 : decode cX12_weighed 33 = .ok (.lstore_n 3, 1) := by decide +kernel
theorem dX12_weighed_34 : decode cX12_weighed 34 = .ok (.iconst 0, 1) := by decide +kernel
theorem dX12_weighed_35 : decode cX12_weighed 35 = .ok (.istore 5, 2) := by decide +kernel
theorem dX12_weighed_37 : decode cX12_weighed 37 = .ok (.iload 5, 2) := by decide +kernel
theorem dX12_weighed_39 : decode cX12_weighed 39 = .ok (.aload_n 0, 1) := by decide +kernel
theorem dX12_weighed_40 : decode cX12_weighed 40 = .ok (.invokevirtual 71, 3) := by decide +kernel
theorem dX12_weighed_43 : decode cX12_weighed 43 = .ok (.if_icmp .ge 44, 3) := by decide +kernel
theorem dX12_weighed_46 : decode cX12_weighed 46 = .ok (.lload_n 3, 1) := by decide +kernel
theorem dX12_weighed_47 : decode cX12_weighed 47 = .ok (.iload 5, 2) := by decide +kernel
theorem dX12_weighed_49 : decode cX12_weighed 49 = .ok (.iload_n 1, 1) := by decide +kernel
theorem dX12_weighed_50 : decode cX12_weighed 50 = .ok (.if_icmp .ne 7, 3) := by decide +kernel
theorem dX12_weighed_53 : decode cX12_weighed 53 = .ok (.lconst 0, 1) := by decide +kernel
theorem dX12_weighed_54 : decode cX12_weighed 54 = .ok (.goto 25, 3) := by decide +kernel
theorem dX12_weighed_57 : decode cX12_weighed 57 = .ok (.aload_n 0, 1) := by decide +kernel
theorem dX12_weighed_58 : decode cX12_weighed 58 = .ok (.iload 5, 2) := by decide +kernel
theorem dX12_weighed_60 : decode cX12_weighed 60 = .ok (.iconst 0, 1) := by decide +kernel
theorem dX12_weighed_61 : decode cX12_weighed 61 = .ok (.invokevirtual 265, 3) := by decide +kernel
theorem dX12_weighed_64 : decode cX12_weighed 64 = .ok (.i2l, 1) := by decide +kernel
theorem dX12_weighed_65 : decode cX12_weighed 65 = .ok (.aload_n 0, 1) := by decide +kernel
theorem dX12_weighed_66 : decode cX12_weighed 66 = .ok (.aload_n 0, 1) := by decide +kernel
theorem dX12_weighed_67 : decode cX12_weighed 67 = .ok (.iload 5, 2) := by decide +kernel
theorem dX12_weighed_69 : decode cX12_weighed 69 = .ok (.iconst 2, 1) := by decide +kernel
theorem dX12_weighed_70 : decode cX12_weighed 70 = .ok (.invokevirtual 265, 3) := by decide +kernel
theorem dX12_weighed_73 : decode cX12_weighed 73 = .ok (.iconst 0, 1) := by decide +kernel
theorem dX12_weighed_74 : decode cX12_weighed 74 = .ok (.invokevirtual 131, 3) := by decide +kernel
theorem dX12_weighed_77 : decode cX12_weighed 77 = .ok (.i2l, 1) := by decide +kernel
theorem dX12_weighed_78 : decode cX12_weighed 78 = .ok (.lmul, 1) := by decide +kernel
theorem dX12_weighed_79 : decode cX12_weighed 79 = .ok (.lsub, 1) := by decide +kernel
theorem dX12_weighed_80 : decode cX12_weighed 80 = .ok (.lstore_n 3, 1) := by decide +kernel
theorem dX12_weighed_81 : decode cX12_weighed 81 = .ok (.iinc 5 1, 3) := by decide +kernel
theorem dX12_weighed_84 : decode cX12_weighed 84 = .ok (.goto (-47), 3) := by decide +kernel
theorem dX12_weighed_87 : decode cX12_weighed 87 = .ok (.aload_n 0, 1) := by decide +kernel
theorem dX12_weighed_88 : decode cX12_weighed 88 = .ok (.aload_n 0, 1) := by decide +kernel
theorem dX12_weighed_89 : decode cX12_weighed 89 = .ok (.iload_n 1, 1) := by decide +kernel
theorem dX12_weighed_90 : decode cX12_weighed 90 = .ok (.iconst 2, 1) := by decide +kernel
theorem dX12_weighed_91 : decode cX12_weighed 91 = .ok (.invokevirtual 265, 3) := by decide +kernel
theorem dX12_weighed_94 : decode cX12_weighed 94 = .ok (.iconst 0, 1) := by decide +kernel
theorem dX12_weighed_95 : decode cX12_weighed 95 = .ok (.invokevirtual 131, 3) := by decide +kernel
theorem dX12_weighed_98 : decode cX12_weighed 98 = .ok (.istore 5, 2) := by decide +kernel
theorem dX12_weighed_100 : decode cX12_weighed 100 = .ok (.iload 5, 2) := by decide +kernel
theorem dX12_weighed_102 : decode cX12_weighed 102 = .ok (.ifCond .eq 13, 3) := by decide +kernel
theorem dX12_weighed_105 : decode cX12_weighed 105 = .ok (.lload_n 3, 1) := by decide +kernel
theorem dX12_weighed_106 : decode cX12_weighed 106 = .ok (.iload 5, 2) := by decide +kernel
theorem dX12_weighed_108 : decode cX12_weighed 108 = .ok (.i2l, 1) := by decide +kernel
theorem dX12_weighed_109 : decode cX12_weighed 109 = .ok (.lrem, 1) := by decide +kernel
theorem dX12_weighed_110 : decode cX12_weighed 110 = .ok (.lconst 0, 1) := by decide +kernel
theorem dX12_weighed_111 : decode cX12_weighed 111 = .ok (.lcmp, 1) := by decide +kernel
theorem dX12_weighed_112 : decode cX12_weighed 112 = .ok (.ifCond .eq 5, 3) := by decide +kernel
theorem dX12_weighed_115 : decode cX12_weighed 115 = .ok (.iconst (-1), 1) := by decide +kernel
theorem dX12_weighed_116 : decode cX12_weighed 116 = .ok (.ireturn, 1) := by decide +kernel
theorem dX12_weighed_117 : decode cX12_weighed 117 = .ok (.lload_n 3, 1) := by decide +kernel
theorem dX12_weighed_118 : decode cX12_weighed 118 = .ok (.iload 5, 2) := by decide +kernel
theorem dX12_weighed_120 : decode cX12_weighed 120 = .ok (.i2l, 1) := by decide +kernel
theorem dX12_weighed_121 : decode cX12_weighed 121 = .ok (.ldiv, 1) := by decide +kernel
theorem dX12_weighed_122 : decode cX12_weighed 122 = .ok (.lstore 6, 2) := by decide +kernel
theorem dX12_weighed_124 : decode cX12_weighed 124 = .ok (.lload 6, 2) := by decide +kernel
theorem dX12_weighed_126 : decode cX12_weighed 126 = .ok (.aload_n 0, 1) := by decide +kernel
theorem dX12_weighed_127 : decode cX12_weighed 127 = .ok (.iload_n 1, 1) := by decide +kernel
theorem dX12_weighed_128 : decode cX12_weighed 128 = .ok (.iconst 0, 1) := by decide +kernel
theorem dX12_weighed_129 : decode cX12_weighed 129 = .ok (.invokevirtual 265, 3) := by decide +kernel
theorem dX12_weighed_132 : decode cX12_weighed 132 = .ok (.i2l, 1) := by decide +kernel
theorem dX12_weighed_133 : decode cX12_weighed 133 = .ok (.lcmp, 1) := by decide +kernel
theorem dX12_weighed_134 : decode cX12_weighed 134 = .ok (.ifCond .lt 16, 3) := by decide +kernel
theorem dX12_weighed_137 : decode cX12_weighed 137 = .ok (.lload 6, 2) := by decide +kernel
theorem dX12_weighed_139 : decode cX12_weighed 139 = .ok (.aload_n 0, 1) := by decide +kernel
theorem dX12_weighed_140 : decode cX12_weighed 140 = .ok (.iload_n 1, 1) := by decide +kernel
theorem dX12_weighed_141 : decode cX12_weighed 141 = .ok (.iconst 1, 1) := by decide +kernel
theorem dX12_weighed_142 : decode cX12_weighed 142 = .ok (.invokevirtual 265, 3) := by decide +kernel
theorem dX12_weighed_145 : decode cX12_weighed 145 = .ok (.i2l, 1) := by decide +kernel
theorem dX12_weighed_146 : decode cX12_weighed 146 = .ok (.lcmp, 1) := by decide +kernel
theorem dX12_weighed_147 : decode cX12_weighed 147 = .ok (.ifCond .le 7, 3) := by decide +kernel
theorem dX12_weighed_150 : decode cX12_weighed 150 = .ok (.iconst (-1), 1) := by decide +kernel
theorem dX12_weighed_151 : decode cX12_weighed 151 = .ok (.goto 6, 3) := by decide +kernel
theorem dX12_weighed_154 : decode cX12_weighed 154 = .ok (.lload 6, 2) := by decide +kernel
theorem dX12_weighed_156 : decode cX12_weighed 156 = .ok (.l2i, 1) := by decide +kernel
theorem dX12_weighed_157 : decode cX12_weighed 157 = .ok (.ireturn, 1) := by decide +kernel
set_option maxRecDepth 100000 in
def F_X12_weighed_b79 (v0 : Nat) (v1 : Int32) (v5 : Int32) (t0 : Int64) (t1 : Int64) (h : Hp) : Option ((Int64 × Int32) ⊕ Int64) :=
  some (.inl (t0 - t1, v5 + (1 : Int32)))
set_option maxHeartbeats 4000000 in
set_option maxRecDepth 100000 in
theorem r_X12_weighed_b79 (v0 : Nat) (v1 : Int32) (v5 : Int32) (t0 : Int64) (t1 : Int64) (h : Hp) {x : Cx} {o : ((Int64 × Int32) ⊕ Int64)} (e : F_X12_weighed_b79 v0 v1 v5 t0 t1 h = some o) (kI : ∀ z, o = .inl z → V M_X12_weighed x 5 37 [(0, .ref v0), (1, .int v1), (3, .long z.1), (5, .int z.2)] [] h 0 0) (kE87 : ∀ z : Int64, o = .inr z → V M_X12_weighed x 5 87 [(0, .ref v0), (1, .int v1), (3, .long z)] [] h 0 0) : V M_X12_weighed x 5 79 [(0, .ref v0), (1, .int v1), (5, .int v5)] [.long t1, .long t0] h 0 0 := by
  unfold F_X12_weighed_b79 at e
  refine V_lsub (pc := 79) dX12_weighed_79 ?_
  refine V_lstore_n (pc := 80) (i := 3) (lv' := [(3, .long (t0 - t1)), (0, .ref v0), (1, .int v1), (5, .int v5)]) dX12_weighed_80 rfl (by decide) rfl ?_
  refine V_iinc (pc := 81) (i := 5) (u := v5 + (1 : Int32)) (lv' := [(5, .int (v5 + (1 : Int32))), (3, .long (t0 - t1)), (0, .ref v0), (1, .int v1)]) dX12_weighed_81 rfl rfl (by decide) rfl ?_
  refine V_goto (pc := 84) (tgt := 37) dX12_weighed_84 (by decide) ?_
  cases e
  exact V_pick [2, 3, 1, 0] rfl (kI (t0 - t1, v5 + (1 : Int32)) rfl)
set_option maxRecDepth 100000 in
def F_X12_weighed_l37 (v0 : Nat) (v1 : Int32) (v3 : Int64) (v5 : Int32) (h : Hp) : Option ((Int64 × Int32) ⊕ Int64) :=
  ob (F_X12_trunks v0 h) fun r15 => gd (decide (kd h v0 = 11)) <| (if r15 ≤ v5 then some (.inr v3) else (if v5 = v1 then F_X12_weighed_b79 v0 v1 v5 v3 (0 : Int64) h else ob (F_X12_ofTrunk v0 v5 (0 : Int32) h) fun r18 => ob (F_X12_ofTrunk v0 v5 (2 : Int32) h) fun r20 => ob (F_X12_ofRoom v0 r20 (0 : Int32) h) fun r22 => F_X12_weighed_b79 v0 v1 v5 v3 (r18.toInt64 * r22.toInt64) h))
set_option maxHeartbeats 4000000 in
set_option maxRecDepth 100000 in
theorem r_X12_weighed_l37 (v0 : Nat) (v1 : Int32) (v3 : Int64) (v5 : Int32) (h : Hp) {x : Cx} {o : ((Int64 × Int32) ⊕ Int64)} (e : F_X12_weighed_l37 v0 v1 v3 v5 h = some o) (kI : ∀ z, o = .inl z → V M_X12_weighed x 5 37 [(0, .ref v0), (1, .int v1), (3, .long z.1), (5, .int z.2)] [] h 0 0) (kE87 : ∀ z : Int64, o = .inr z → V M_X12_weighed x 5 87 [(0, .ref v0), (1, .int v1), (3, .long z)] [] h 0 0) : V M_X12_weighed x 5 37 [(0, .ref v0), (1, .int v1), (3, .long v3), (5, .int v5)] [] h 0 0 := by
  unfold F_X12_weighed_l37 at e
  refine V_iload (pc := 37) (i := 5) dX12_weighed_37 rfl ?_
  refine V_aload_n (pc := 39) (i := 0) dX12_weighed_39 rfl rfl ?_
  obtain ⟨r15, g14, e⟩ := ob_some e
  obtain ⟨g16, e⟩ := gd_some e
  refine V_callV (pc := 40) (bc := 0) (bs := 0) (mc := 0) (ms := 0) (st := [.int v5]) (As := []) (a := v0) (h' := h) (r := some (.int r15)) dX12_weighed_40 ml_X12_71 (ci := 11) rfl (of_decide_eq_true g16) rfl rfl (Nat.le_of_ble_eq_true rfl) (d' := 0) (by decide) (c_X12_trunks (l := x.2.1) v0 h g14) ?_
  refine V_icmp_ge (pc := 43) (tgt := 87) dX12_weighed_43 (by decide) (fun c24 => ?_) (fun c24 => ?_)
  · rw [if_pos c24] at e
    cases e
    exact V_pick [0, 1, 2] rfl (kE87 v3 rfl)
  · rw [if_neg c24] at e
    refine V_pick [0, 1, 2, 3] rfl ?_
    refine V_lload_n (pc := 46) (i := 3) dX12_weighed_46 rfl rfl ?_
    refine V_iload (pc := 47) (i := 5) dX12_weighed_47 rfl ?_
    refine V_iload_n (pc := 49) (i := 1) dX12_weighed_49 rfl rfl ?_
    refine V_icmp_ne (pc := 50) (tgt := 57) dX12_weighed_50 (by decide) (fun c23 => ?_) (fun c23 => ?_)
    · rw [if_neg c23] at e
      refine V_pick [0, 1, 3] rfl ?_
      refine V_aload_n (pc := 57) (i := 0) dX12_weighed_57 rfl rfl ?_
      refine V_iload (pc := 58) (i := 5) dX12_weighed_58 rfl ?_
      refine V_iconst (pc := 60) (v := (0 : Int32)) dX12_weighed_60 (by decide) ?_
      obtain ⟨r18, g17, e⟩ := ob_some e
      refine V_callV (pc := 61) (bc := 0) (bs := 0) (mc := 0) (ms := 0) (st := [.long v3]) (As := [.int v5, .int (0 : Int32)]) (a := v0) (h' := h) (r := some (.int r18)) dX12_weighed_61 ml_X12_265 (ci := 11) rfl (of_decide_eq_true g16) rfl rfl (Nat.le_of_ble_eq_true rfl) (d' := 0) (by decide) (c_X12_ofTrunk (l := x.2.1) v0 v5 (0 : Int32) h g17) ?_
      refine V_i2l (pc := 64) dX12_weighed_64 ?_
      refine V_aload_n (pc := 65) (i := 0) dX12_weighed_65 rfl rfl ?_
      refine V_aload_n (pc := 66) (i := 0) dX12_weighed_66 rfl rfl ?_
      refine V_iload (pc := 67) (i := 5) dX12_weighed_67 rfl ?_
      refine V_iconst (pc := 69) (v := (2 : Int32)) dX12_weighed_69 (by decide) ?_
      obtain ⟨r20, g19, e⟩ := ob_some e
      refine V_callV (pc := 70) (bc := 0) (bs := 0) (mc := 0) (ms := 0) (st := [.ref v0, .long r18.toInt64, .long v3]) (As := [.int v5, .int (2 : Int32)]) (a := v0) (h' := h) (r := some (.int r20)) dX12_weighed_70 ml_X12_265 (ci := 11) rfl (of_decide_eq_true g16) rfl rfl (Nat.le_of_ble_eq_true rfl) (d' := 0) (by decide) (c_X12_ofTrunk (l := x.2.1) v0 v5 (2 : Int32) h g19) ?_
      refine V_iconst (pc := 73) (v := (0 : Int32)) dX12_weighed_73 (by decide) ?_
      obtain ⟨r22, g21, e⟩ := ob_some e
      refine V_callV (pc := 74) (bc := 0) (bs := 0) (mc := 0) (ms := 0) (st := [.long r18.toInt64, .long v3]) (As := [.int r20, .int (0 : Int32)]) (a := v0) (h' := h) (r := some (.int r22)) dX12_weighed_74 ml_X12_131 (ci := 11) rfl (of_decide_eq_true g16) rfl rfl (Nat.le_of_ble_eq_true rfl) (d' := 0) (by decide) (c_X12_ofRoom (l := x.2.1) v0 r20 (0 : Int32) h g21) ?_
      refine V_i2l (pc := 77) dX12_weighed_77 ?_
      refine V_lmul (pc := 78) dX12_weighed_78 ?_
      exact V_pick [0, 1, 2] rfl (r_X12_weighed_b79 v0 v1 v5 v3 (r18.toInt64 * r22.toInt64) h e kI kE87)
    · rw [if_pos c23] at e
      refine V_pick [0, 1, 3] rfl ?_
      refine V_lconst (pc := 53) (v := 0) dX12_weighed_53 (by decide) ?_
      refine V_goto (pc := 54) (tgt := 79) dX12_weighed_54 (by decide) ?_
      exact V_pick [0, 1, 2] rfl (r_X12_weighed_b79 v0 v1 v5 v3 (0 : Int64) h e kI kE87)
set_option maxRecDepth 100000 in
def F_X12_weighed_b115  (h : Hp) : Option (Int32 × Hp) :=
  some ((-1 : Int32), h)
set_option maxHeartbeats 4000000 in
set_option maxRecDepth 100000 in
theorem r_X12_weighed_b115  (h : Hp) {x : Cx} {r : Int32} {hz : Hp} (e : F_X12_weighed_b115  h = some (r, hz)) (hF : Fin9 M_X12_weighed x (some .int) (some (.int r)) hz) : V M_X12_weighed x 5 115 [] [] h 0 0 := by
  unfold F_X12_weighed_b115 at e
  refine V_iconst (pc := 115) (v := (-1 : Int32)) dX12_weighed_115 (by decide) ?_
  cases e
  exact V_iret (pc := 116) dX12_weighed_116 hF
set_option maxRecDepth 100000 in
def F_X12_weighed_b157 (t0 : Int32) (h : Hp) : Option (Int32 × Hp) :=
  some (t0, h)
set_option maxHeartbeats 4000000 in
set_option maxRecDepth 100000 in
theorem r_X12_weighed_b157 (t0 : Int32) (h : Hp) {x : Cx} {r : Int32} {hz : Hp} (e : F_X12_weighed_b157 t0 h = some (r, hz)) (hF : Fin9 M_X12_weighed x (some .int) (some (.int r)) hz) : V M_X12_weighed x 5 157 [] [.int t0] h 0 0 := by
  unfold F_X12_weighed_b157 at e
  cases e
  exact V_iret (pc := 157) dX12_weighed_157 hF
set_option maxRecDepth 100000 in
def F_X12_weighed_b150  (h : Hp) : Option (Int32 × Hp) :=
  F_X12_weighed_b157 (-1 : Int32) h
set_option maxHeartbeats 4000000 in
set_option maxRecDepth 100000 in
theorem r_X12_weighed_b150  (h : Hp) {x : Cx} {r : Int32} {hz : Hp} (e : F_X12_weighed_b150  h = some (r, hz)) (hF : Fin9 M_X12_weighed x (some .int) (some (.int r)) hz) : V M_X12_weighed x 5 150 [] [] h 0 0 := by
  unfold F_X12_weighed_b150 at e
  refine V_iconst (pc := 150) (v := (-1 : Int32)) dX12_weighed_150 (by decide) ?_
  refine V_goto (pc := 151) (tgt := 157) dX12_weighed_151 (by decide) ?_
  exact V_pick [] rfl (r_X12_weighed_b157 (-1 : Int32) h e hF)
set_option maxRecDepth 100000 in
def F_X12_weighed_b0 (v0 : Nat) (v1 : Int32) (v2 : Int32) (h : Hp) : Option (Int32 × Hp) :=
  gd (decide (kd h v0 = 11)) <| ob (F_X12_noTrunk v0 v1 (setI h v0 0 (0 : Int32))) fun r3 => ob2 (F_X12_throwsIf v0 r3 (1 : Int32) (setI h v0 0 (0 : Int32))) fun r5 h6 => (if r5 = 0 then ob2 (F_X12_sits v0 h6) fun _ h9 => gd (decide (kd h6 v0 = 11)) <| ob (F_X12_net v0 (0 : Int32) h9) fun r12 => gd (decide (kd h9 v0 = 11)) <| ob (iter (fun z : Int64 × Int32 => F_X12_weighed_l37 v0 v1 z.1 z.2 h9) FU (v2.toInt64 - r12.toInt64, (0 : Int32))) (fun w25 => ob (F_X12_ofTrunk v0 v1 (2 : Int32) h9) fun r27 => ob (F_X12_ofRoom v0 r27 (0 : Int32) h9) fun r29 => (if r29 = 0 then F_X12_weighed_b115 h9 else gd (decide (¬ r29.toInt64 = 0)) <| (if (lg_cmp (w25 - w25 / r29.toInt64 * r29.toInt64) (0 : Int64)) = 0 then gd (decide (¬ r29.toInt64 = 0)) <| ob (F_X12_ofTrunk v0 v1 (0 : Int32) h9) fun r33 => (if (lg_cmp (w25 / r29.toInt64) r33.toInt64) < 0 then F_X12_weighed_b150 h9 else ob (F_X12_ofTrunk v0 v1 (1 : Int32) h9) fun r35 => (if (lg_cmp (w25 / r29.toInt64) r35.toInt64) ≤ 0 then F_X12_weighed_b157 ((w25 / r29.toInt64).toInt32) h9 else F_X12_weighed_b150 h9)) else F_X12_weighed_b115 h9))) else some ((0 : Int32), h6))
set_option maxHeartbeats 4000000 in
set_option maxRecDepth 100000 in
theorem r_X12_weighed_b0 (v0 : Nat) (v1 : Int32) (v2 : Int32) (h : Hp) {x : Cx} {r : Int32} {hz : Hp} (e : F_X12_weighed_b0 v0 v1 v2 h = some (r, hz)) (hF : Fin9 M_X12_weighed x (some .int) (some (.int r)) hz) : V M_X12_weighed x 5 0 [(0, .ref v0), (1, .int v1), (2, .int v2)] [] h 0 0 := by
  unfold F_X12_weighed_b0 at e
  refine V_aload_n (pc := 0) (i := 0) dX12_weighed_0 rfl rfl ?_
  refine V_iconst (pc := 1) (v := (0 : Int32)) dX12_weighed_1 (by decide) ?_
  obtain ⟨g1, e⟩ := gd_some e
  refine V_putI (pc := 2) (ci := 11) (k := 0) dX12_weighed_2 fp_X12_3 rfl (of_decide_eq_true g1) ?_
  refine V_aload_n (pc := 5) (i := 0) dX12_weighed_5 rfl rfl ?_
  refine V_aload_n (pc := 6) (i := 0) dX12_weighed_6 rfl rfl ?_
  refine V_iload_n (pc := 7) (i := 1) dX12_weighed_7 rfl rfl ?_
  obtain ⟨r3, g2, e⟩ := ob_some e
  refine V_callV (pc := 8) (bc := 0) (bs := 0) (mc := 0) (ms := 0) (st := [.ref v0]) (As := [.int v1]) (a := v0) (h' := (setI h v0 0 (0 : Int32))) (r := some (.int r3)) dX12_weighed_8 ml_X12_287 (ci := 11) rfl (kd_sI (of_decide_eq_true g1)) rfl rfl (Nat.le_of_ble_eq_true rfl) (d' := 1) (by decide) (c_X12_noTrunk (l := x.2.1) v0 v1 (setI h v0 0 (0 : Int32)) g2) ?_
  refine V_iconst (pc := 11) (v := (1 : Int32)) dX12_weighed_11 (by decide) ?_
  obtain ⟨r5, h6, g4, e⟩ := ob2_some e
  refine V_callV (pc := 12) (bc := 0) (bs := 0) (mc := 0) (ms := 0) (st := []) (As := [.int r3, .int (1 : Int32)]) (a := v0) (h' := h6) (r := some (.int r5)) dX12_weighed_12 ml_X12_240 (ci := 11) rfl (kd_sI (of_decide_eq_true g1)) rfl rfl (Nat.le_of_ble_eq_true rfl) (d' := 0) (by decide) (c_X12_throwsIf (l := x.2.1) v0 r3 (1 : Int32) (setI h v0 0 (0 : Int32)) g4) ?_
  refine V_if_eq (pc := 15) (tgt := 20) dX12_weighed_15 (by decide) (fun c42 => ?_) (fun c42 => ?_)
  · rw [if_pos c42] at e
    refine V_pick [0, 1, 2] rfl ?_
    refine V_aload_n (pc := 20) (i := 0) dX12_weighed_20 rfl rfl ?_
    obtain ⟨r8, h9, g7, e⟩ := ob2_some e
    obtain ⟨g10, e⟩ := gd_some e
    refine V_callV (pc := 21) (bc := 0) (bs := 0) (mc := 0) (ms := 0) (st := []) (As := []) (a := v0) (h' := h9) (r := none) dX12_weighed_21 ml_X12_290 (ci := 11) rfl (of_decide_eq_true g10) rfl rfl (Nat.le_of_ble_eq_true rfl) (d' := 1) (by decide) (c_X12_sits (l := x.2.1) v0 h6 g7) ?_
    refine V_iload_n (pc := 24) (i := 2) dX12_weighed_24 rfl rfl ?_
    refine V_i2l (pc := 25) dX12_weighed_25 ?_
    refine V_aload_n (pc := 26) (i := 0) dX12_weighed_26 rfl rfl ?_
    refine V_iconst (pc := 27) (v := (0 : Int32)) dX12_weighed_27 (by decide) ?_
    obtain ⟨r12, g11, e⟩ := ob_some e
    obtain ⟨g13, e⟩ := gd_some e
    refine V_callV (pc := 28) (bc := 0) (bs := 0) (mc := 0) (ms := 0) (st := [.long v2.toInt64]) (As := [.int (0 : Int32)]) (a := v0) (h' := h9) (r := some (.int r12)) dX12_weighed_28 ml_X12_278 (ci := 11) rfl (of_decide_eq_true g13) rfl rfl (Nat.le_of_ble_eq_true rfl) (d' := 4) (by decide) (c_X12_net (l := x.2.1) v0 (0 : Int32) h9 g11) ?_
    refine V_i2l (pc := 31) dX12_weighed_31 ?_
    refine V_lsub (pc := 32) dX12_weighed_32 ?_
    refine V_lstore_n (pc := 33) (i := 3) (lv' := [(3, .long (v2.toInt64 - r12.toInt64)), (0, .ref v0), (1, .int v1), (2, .int v2)]) dX12_weighed_33 rfl (by decide) rfl ?_
    refine V_iconst (pc := 34) (v := (0 : Int32)) dX12_weighed_34 (by decide) ?_
    refine V_istore (pc := 35) (i := 5) (lv' := [(5, .int (0 : Int32)), (3, .long (v2.toInt64 - r12.toInt64)), (0, .ref v0), (1, .int v1), (2, .int v2)]) dX12_weighed_35 (by decide) rfl ?_
    refine V_pick [2, 3, 1, 0] rfl ?_
    obtain ⟨y40, g41, e⟩ := ob_some e
    refine iter_V (P := fun z : Int64 × Int32 => V M_X12_weighed x 5 37 [(0, .ref v0), (1, .int v1), (3, .long z.1), (5, .int z.2)] [] h9 0 0) (E := fun z : Int64 => V M_X12_weighed x 5 87 [(0, .ref v0), (1, .int v1), (3, .long z)] [] h9 0 0) (fun z o e9 k1 k2 => r_X12_weighed_l37 v0 v1 z.1 z.2 h9 e9 (fun z hz9 => k1 z hz9) (fun z hz9 => k2 _ hz9)) _ _ _ g41 ?_
    clear g41
    obtain ⟨w25, rfl⟩ : ∃ q, q = y40 := ⟨_, rfl⟩
    replace e : (ob (F_X12_ofTrunk v0 v1 (2 : Int32) h9) fun r27 => ob (F_X12_ofRoom v0 r27 (0 : Int32) h9) fun r29 => (if r29 = 0 then F_X12_weighed_b115 h9 else gd (decide (¬ r29.toInt64 = 0)) <| (if (lg_cmp (w25 - w25 / r29.toInt64 * r29.toInt64) (0 : Int64)) = 0 then gd (decide (¬ r29.toInt64 = 0)) <| ob (F_X12_ofTrunk v0 v1 (0 : Int32) h9) fun r33 => (if (lg_cmp (w25 / r29.toInt64) r33.toInt64) < 0 then F_X12_weighed_b150 h9 else ob (F_X12_ofTrunk v0 v1 (1 : Int32) h9) fun r35 => (if (lg_cmp (w25 / r29.toInt64) r35.toInt64) ≤ 0 then F_X12_weighed_b157 ((w25 / r29.toInt64).toInt32) h9 else F_X12_weighed_b150 h9)) else F_X12_weighed_b115 h9))) = some (r, hz) := e
    show V M_X12_weighed x 5 87 [(0, .ref v0), (1, .int v1), (3, .long w25)] [] h9 0 0
    refine V_aload_n (pc := 87) (i := 0) dX12_weighed_87 rfl rfl ?_
    refine V_aload_n (pc := 88) (i := 0) dX12_weighed_88 rfl rfl ?_
    refine V_iload_n (pc := 89) (i := 1) dX12_weighed_89 rfl rfl ?_
    refine V_iconst (pc := 90) (v := (2 : Int32)) dX12_weighed_90 (by decide) ?_
    obtain ⟨r27, g26, e⟩ := ob_some e
    refine V_callV (pc := 91) (bc := 0) (bs := 0) (mc := 0) (ms := 0) (st := [.ref v0]) (As := [.int v1, .int (2 : Int32)]) (a := v0) (h' := h9) (r := some (.int r27)) dX12_weighed_91 ml_X12_265 (ci := 11) rfl (of_decide_eq_true g13) rfl rfl (Nat.le_of_ble_eq_true rfl) (d' := 0) (by decide) (c_X12_ofTrunk (l := x.2.1) v0 v1 (2 : Int32) h9 g26) ?_
    refine V_iconst (pc := 94) (v := (0 : Int32)) dX12_weighed_94 (by decide) ?_
    obtain ⟨r29, g28, e⟩ := ob_some e
    refine V_callV (pc := 95) (bc := 0) (bs := 0) (mc := 0) (ms := 0) (st := []) (As := [.int r27, .int (0 : Int32)]) (a := v0) (h' := h9) (r := some (.int r29)) dX12_weighed_95 ml_X12_131 (ci := 11) rfl (of_decide_eq_true g13) rfl rfl (Nat.le_of_ble_eq_true rfl) (d' := 0) (by decide) (c_X12_ofRoom (l := x.2.1) v0 r27 (0 : Int32) h9 g28) ?_
    refine V_istore (pc := 98) (i := 5) (lv' := [(5, .int r29), (0, .ref v0), (1, .int v1), (3, .long w25)]) dX12_weighed_98 (by decide) rfl ?_
    refine V_iload (pc := 100) (i := 5) dX12_weighed_100 rfl ?_
    refine V_if_eq (pc := 102) (tgt := 115) dX12_weighed_102 (by decide) (fun c39 => ?_) (fun c39 => ?_)
    · rw [if_pos c39] at e
      exact V_pick [] rfl (r_X12_weighed_b115 h9 e hF)
    · rw [if_neg c39] at e
      refine V_pick [1, 2, 3, 0] rfl ?_
      refine V_lload_n (pc := 105) (i := 3) dX12_weighed_105 rfl rfl ?_
      refine V_iload (pc := 106) (i := 5) dX12_weighed_106 rfl ?_
      refine V_i2l (pc := 108) dX12_weighed_108 ?_
      obtain ⟨g30, e⟩ := gd_some e
      refine V_lrem (pc := 109) dX12_weighed_109 (of_decide_eq_true g30) ?_
      refine V_lconst (pc := 110) (v := 0) dX12_weighed_110 (by decide) ?_
      refine V_lcmp (pc := 111) dX12_weighed_111 ?_
      refine V_if_eq (pc := 112) (tgt := 117) dX12_weighed_112 (by decide) (fun c38 => ?_) (fun c38 => ?_)
      · rw [if_pos c38] at e
        refine V_pick [0, 1, 2, 3] rfl ?_
        refine V_lload_n (pc := 117) (i := 3) dX12_weighed_117 rfl rfl ?_
        refine V_iload (pc := 118) (i := 5) dX12_weighed_118 rfl ?_
        refine V_i2l (pc := 120) dX12_weighed_120 ?_
        obtain ⟨g31, e⟩ := gd_some e
        refine V_ldiv (pc := 121) dX12_weighed_121 (of_decide_eq_true g31) ?_
        refine V_lstore (pc := 122) (i := 6) (lv' := [(6, .long (w25 / r29.toInt64)), (0, .ref v0), (1, .int v1), (3, .long w25), (5, .int r29)]) dX12_weighed_122 (by decide) rfl ?_
        refine V_lload (pc := 124) (i := 6) dX12_weighed_124 rfl ?_
        refine V_aload_n (pc := 126) (i := 0) dX12_weighed_126 rfl rfl ?_
        refine V_iload_n (pc := 127) (i := 1) dX12_weighed_127 rfl rfl ?_
        refine V_iconst (pc := 128) (v := (0 : Int32)) dX12_weighed_128 (by decide) ?_
        obtain ⟨r33, g32, e⟩ := ob_some e
        refine V_callV (pc := 129) (bc := 0) (bs := 0) (mc := 0) (ms := 0) (st := [.long (w25 / r29.toInt64)]) (As := [.int v1, .int (0 : Int32)]) (a := v0) (h' := h9) (r := some (.int r33)) dX12_weighed_129 ml_X12_265 (ci := 11) rfl (of_decide_eq_true g13) rfl rfl (Nat.le_of_ble_eq_true rfl) (d' := 0) (by decide) (c_X12_ofTrunk (l := x.2.1) v0 v1 (0 : Int32) h9 g32) ?_
        refine V_i2l (pc := 132) dX12_weighed_132 ?_
        refine V_lcmp (pc := 133) dX12_weighed_133 ?_
        refine V_if_lt (pc := 134) (tgt := 150) dX12_weighed_134 (by decide) (fun c37 => ?_) (fun c37 => ?_)
        · rw [if_pos c37] at e
          exact V_pick [] rfl (r_X12_weighed_b150 h9 e hF)
        · rw [if_neg c37] at e
          refine V_pick [1, 2, 0] rfl ?_
          refine V_lload (pc := 137) (i := 6) dX12_weighed_137 rfl ?_
          refine V_aload_n (pc := 139) (i := 0) dX12_weighed_139 rfl rfl ?_
          refine V_iload_n (pc := 140) (i := 1) dX12_weighed_140 rfl rfl ?_
          refine V_iconst (pc := 141) (v := (1 : Int32)) dX12_weighed_141 (by decide) ?_
          obtain ⟨r35, g34, e⟩ := ob_some e
          refine V_callV (pc := 142) (bc := 0) (bs := 0) (mc := 0) (ms := 0) (st := [.long (w25 / r29.toInt64)]) (As := [.int v1, .int (1 : Int32)]) (a := v0) (h' := h9) (r := some (.int r35)) dX12_weighed_142 ml_X12_265 (ci := 11) rfl (of_decide_eq_true g13) rfl rfl (Nat.le_of_ble_eq_true rfl) (d' := 0) (by decide) (c_X12_ofTrunk (l := x.2.1) v0 v1 (1 : Int32) h9 g34) ?_
          refine V_i2l (pc := 145) dX12_weighed_145 ?_
          refine V_lcmp (pc := 146) dX12_weighed_146 ?_
          refine V_if_le (pc := 147) (tgt := 154) dX12_weighed_147 (by decide) (fun c36 => ?_) (fun c36 => ?_)
          · rw [if_pos c36] at e
            refine V_pick [2] rfl ?_
            refine V_lload (pc := 154) (i := 6) dX12_weighed_154 rfl ?_
            refine V_l2i (pc := 156) dX12_weighed_156 ?_
            exact V_pick [] rfl (r_X12_weighed_b157 ((w25 / r29.toInt64).toInt32) h9 e hF)
          · rw [if_neg c36] at e
            exact V_pick [] rfl (r_X12_weighed_b150 h9 e hF)
      · rw [if_neg c38] at e
        exact V_pick [] rfl (r_X12_weighed_b115 h9 e hF)
  · rw [if_neg c42] at e
    refine V_pick [] rfl ?_
    refine V_iconst (pc := 18) (v := (0 : Int32)) dX12_weighed_18 (by decide) ?_
    cases e
    exact V_iret (pc := 19) dX12_weighed_19 hF
def F_X12_weighed (v0 : Nat) (v1 : Int32) (v2 : Int32) (h : Hp) : Option (Int32 × Hp) := F_X12_weighed_b0 v0 v1 v2 h
theorem c_X12_weighed {l : Launch} (v0 : Nat) (v1 : Int32) (v2 : Int32) (h : Hp) {r : Int32} {hz : Hp} (e : F_X12_weighed v0 v1 v2 h = some (r, hz)) : Ct l yX12_weighed M_X12_weighed (some .int) 5 [.ref v0, .int v1, .int v2] h 0 0 (some (.int r)) hz :=
  Ct_of rfl rfl (fun q => by cases q) (Nat.le_of_ble_eq_true rfl) (fun x _ hF => V_pick [0, 1, 2] rfl (r_X12_weighed_b0 v0 v1 v2 h e hF))
theorem dX12_weigh_0 : decode cX12_weigh 0 = .ok (.aload_n 0, 1) := by decide +kernel
theorem dX12_weigh_1 : decode cX12_weigh 1 = .ok (.iconst 0, 1) := by decide +kernel
theorem dX12_weigh_2 : decode cX12_weigh 2 = .ok (.putfield 3, 3) := by decide +kernel
theorem dX12_weigh_5 : decode cX12_weigh 5 = .ok (.aload_n 0, 1) := by decide +kernel
theorem dX12_weigh_6 : decode cX12_weigh 6 = .ok (.aload_n 0, 1) := by decide +kernel
theorem dX12_weigh_7 : decode cX12_weigh 7 = .ok (.iload_n 1, 1) := by decide +kernel
theorem dX12_weigh_8 : decode cX12_weigh 8 = .ok (.invokevirtual 287, 3) := by decide +kernel
theorem dX12_weigh_11 : decode cX12_weigh 11 = .ok (.iconst 1, 1) := by decide +kernel
theorem dX12_weigh_12 : decode cX12_weigh 12 = .ok (.invokevirtual 240, 3) := by decide +kernel
theorem dX12_weigh_15 : decode cX12_weigh 15 = .ok (.ifCond .ne 35, 3) := by decide +kernel
theorem dX12_weigh_18 : decode cX12_weigh 18 = .ok (.aload_n 0, 1) := by decide +kernel
theorem dX12_weigh_19 : decode cX12_weigh 19 = .ok (.iload_n 2, 1) := by decide +kernel
theorem dX12_weigh_20 : decode cX12_weigh 20 = .ok (.aload_n 0, 1) := by decide +kernel
theorem dX12_weigh_21 : decode cX12_weigh 21 = .ok (.iload_n 1, 1) := by decide +kernel
theorem dX12_weigh_22 : decode cX12_weigh 22 = .ok (.iconst 0, 1) := by decide +kernel
theorem dX12_weigh_23 : decode cX12_weigh 23 = .ok (.invokevirtual 265, 3) := by decide +kernel
theorem dX12_weigh_26 : decode cX12_weigh 26 = .ok (.aload_n 0, 1) := by decide +kernel
theorem dX12_weigh_27 : decode cX12_weigh 27 = .ok (.iload_n 1, 1) := by decide +kernel
theorem dX12_weigh_28 : decode cX12_weigh 28 = .ok (.iconst 1, 1) := by decide +kernel
theorem dX12_weigh_29 : decode cX12_weigh 29 = .ok (.invokevirtual 265, 3) := by decide +kernel
theorem dX12_weigh_32 : decode cX12_weigh 32 = .ok (.invokestatic 64, 3) := by decide +kernel
theorem dX12_weigh_35 : decode cX12_weigh 35 = .ok (.ifCond .ne 7, 3) := by decide +kernel
theorem dX12_weigh_38 : decode cX12_weigh 38 = .ok (.iconst 1, 1) := by decide +kernel
theorem dX12_weigh_39 : decode cX12_weigh 39 = .ok (.goto 4, 3) := by decide +kernel
theorem dX12_weigh_42 : decode cX12_weigh 42 = .ok (.iconst 0, 1) := by decide +kernel
theorem dX12_weigh_43 : decode cX12_weigh 43 = .ok (.iconst 2, 1) := by decide +kernel
theorem dX12_weigh_44 : decode cX12_weigh 44 = .ok (.invokevirtual 240, 3) := by decide +kernel
theorem dX12_weigh_47 : decode cX12_weigh 47 = .ok (.ifCond .eq 4, 3) := by decide +kernel
theorem dX12_weigh_50 : decode cX12_weigh 50 = .ok (.return_, 1) := by decide +kernel
theorem dX12_weigh_51 : decode cX12_weigh 51 = .ok (.aload_n 0, 1) := by decide +kernel
theorem dX12_weigh_52 : decode cX12_weigh 52 = .ok (.getfield 13, 3) := by decide +kernel
theorem dX12_weigh_55 : decode cX12_weigh 55 = .ok (.bipush 53, 2) := by decide +kernel
theorem dX12_weigh_57 : decode cX12_weigh 57 = .ok (.iconst 3, 1) := by decide +kernel
theorem dX12_weigh_58 : decode cX12_weigh 58 = .ok (.iload_n 1, 1) := by decide +kernel
theorem dX12_weigh_59 : decode cX12_weigh 59 = .ok (.imul, 1) := by decide +kernel
theorem dX12_weigh_60 : decode cX12_weigh 60 = .ok (.iadd, 1) := by decide +kernel
theorem dX12_weigh_61 : decode cX12_weigh 61 = .ok (.iconst 0, 1) := by decide +kernel
theorem dX12_weigh_62 : decode cX12_weigh 62 = .ok (.iadd, 1) := by decide +kernel
theorem dX12_weigh_63 : decode cX12_weigh 63 = .ok (.iload_n 2, 1) := by decide +kernel
theorem dX12_weigh_64 : decode cX12_weigh 64 = .ok (.iastore, 1) := by decide +kernel
theorem dX12_weigh_65 : decode cX12_weigh 65 = .ok (.aload_n 0, 1) := by decide +kernel
theorem dX12_weigh_66 : decode cX12_weigh 66 = .ok (.getfield 13, 3) := by decide +kernel
theorem dX12_weigh_69 : decode cX12_weigh 69 = .ok (.bipush 53, 2) := by decide +kernel
theorem dX12_weigh_71 : decode cX12_weigh 71 = .ok (.iconst 3, 1) := by decide +kernel
theorem dX12_weigh_72 : decode cX12_weigh 72 = .ok (.iload_n 1, 1) := by decide +kernel
theorem dX12_weigh_73 : decode cX12_weigh 73 = .ok (.imul, 1) := by decide +kernel
theorem dX12_weigh_74 : decode cX12_weigh 74 = .ok (.iadd, 1) := by decide +kernel
theorem dX12_weigh_75 : decode cX12_weigh 75 = .ok (.iconst 1, 1) := by decide +kernel
theorem dX12_weigh_76 : decode cX12_weigh 76 = .ok (.iadd, 1) := by decide +kernel
theorem dX12_weigh_77 : decode cX12_weigh 77 = .ok (.iload_n 2, 1) := by decide +kernel
theorem dX12_weigh_78 : decode cX12_weigh 78 = .ok (.iastore, 1) := by decide +kernel
theorem dX12_weigh_79 : decode cX12_weigh 79 = .ok (.return_, 1) := by decide +kernel
set_option maxRecDepth 100000 in
def F_X12_weigh_b50  (h : Hp) : Option (Unit × Hp) :=
  some ((), h)
set_option maxHeartbeats 4000000 in
set_option maxRecDepth 100000 in
theorem r_X12_weigh_b50  (h : Hp) {x : Cx} {r : Unit} {hz : Hp} (e : F_X12_weigh_b50  h = some (r, hz)) (hF : Fin9 M_X12_weigh x none none hz) : V M_X12_weigh x 2 50 [] [] h 0 0 := by
  unfold F_X12_weigh_b50 at e
  cases e
  exact V_vret (pc := 50) dX12_weigh_50 hF
set_option maxRecDepth 100000 in
def F_X12_weigh_b43 (v0 : Nat) (v1 : Int32) (v2 : Int32) (t0 : Nat) (t1 : Int32) (h : Hp) : Option (Unit × Hp) :=
  ob2 (F_X12_throwsIf t0 t1 (2 : Int32) h) fun r15 h16 => gd (decide (kd h t0 = 11)) <| (if r15 = 0 then gd (decide (kd h16 v0 = 11)) <| ob (zR h16 v0 1) fun q19 => gd (decide (kd h16 q19 = 13)) <| gd (ix (((53 : Int32) + ((3 : Int32) * v1)) + (0 : Int32)) (zl h16 q19)) <| ob (zR (setI h16 q19 (((53 : Int32) + ((3 : Int32) * v1)) + (0 : Int32)).toNatClampNeg v2) v0 1) fun q23 => gd (decide (kd (setI h16 q19 (((53 : Int32) + ((3 : Int32) * v1)) + (0 : Int32)).toNatClampNeg v2) q23 = 13)) <| gd (ix (((53 : Int32) + ((3 : Int32) * v1)) + (1 : Int32)) (zl (setI h16 q19 (((53 : Int32) + ((3 : Int32) * v1)) + (0 : Int32)).toNatClampNeg v2) q23)) <| ob (some (setI (setI h16 q19 (((53 : Int32) + ((3 : Int32) * v1)) + (0 : Int32)).toNatClampNeg v2) q23 (((53 : Int32) + ((3 : Int32) * v1)) + (1 : Int32)).toNatClampNeg v2)) fun h27 => some ((), h27) else F_X12_weigh_b50 h16)
set_option maxHeartbeats 4000000 in
set_option maxRecDepth 100000 in
theorem r_X12_weigh_b43 (v0 : Nat) (v1 : Int32) (v2 : Int32) (t0 : Nat) (t1 : Int32) (h : Hp) {x : Cx} {r : Unit} {hz : Hp} (e : F_X12_weigh_b43 v0 v1 v2 t0 t1 h = some (r, hz)) (hF : Fin9 M_X12_weigh x none none hz) : V M_X12_weigh x 2 43 [(0, .ref v0), (1, .int v1), (2, .int v2)] [.int t1, .ref t0] h 0 0 := by
  unfold F_X12_weigh_b43 at e
  refine V_iconst (pc := 43) (v := (2 : Int32)) dX12_weigh_43 (by decide) ?_
  obtain ⟨r15, h16, g14, e⟩ := ob2_some e
  obtain ⟨g17, e⟩ := gd_some e
  refine V_callV (pc := 44) (bc := 0) (bs := 0) (mc := 0) (ms := 0) (st := []) (As := [.int t1, .int (2 : Int32)]) (a := t0) (h' := h16) (r := some (.int r15)) dX12_weigh_44 ml_X12_240 (ci := 11) rfl (of_decide_eq_true g17) rfl rfl (Nat.le_of_ble_eq_true rfl) (d' := 0) (by decide) (c_X12_throwsIf (l := x.2.1) t0 t1 (2 : Int32) h g14) ?_
  refine V_if_eq (pc := 47) (tgt := 51) dX12_weigh_47 (by decide) (fun c32 => ?_) (fun c32 => ?_)
  · rw [if_pos c32] at e
    refine V_pick [0, 1, 2] rfl ?_
    refine V_aload_n (pc := 51) (i := 0) dX12_weigh_51 rfl rfl ?_
    obtain ⟨g18, e⟩ := gd_some e
    obtain ⟨q19, g20, e⟩ := ob_some e
    refine V_getR (pc := 52) (ci := 11) (k := 1) (b := q19) dX12_weigh_52 fl_X12_13 rfl (of_decide_eq_true g18) g20 ?_
    refine V_bipush (pc := 55) (v := (53 : Int32)) dX12_weigh_55 (by decide) ?_
    refine V_iconst (pc := 57) (v := (3 : Int32)) dX12_weigh_57 (by decide) ?_
    refine V_iload_n (pc := 58) (i := 1) dX12_weigh_58 rfl rfl ?_
    refine V_imul (pc := 59) dX12_weigh_59 ?_
    refine V_iadd (pc := 60) dX12_weigh_60 ?_
    refine V_iconst (pc := 61) (v := (0 : Int32)) dX12_weigh_61 (by decide) ?_
    refine V_iadd (pc := 62) dX12_weigh_62 ?_
    refine V_iload_n (pc := 63) (i := 2) dX12_weigh_63 rfl rfl ?_
    obtain ⟨g21, e⟩ := gd_some e
    obtain ⟨g22, e⟩ := gd_some e
    refine V_iast (pc := 64) dX12_weigh_64 (of_decide_eq_true g21) (ix_in g22) ?_
    refine V_aload_n (pc := 65) (i := 0) dX12_weigh_65 rfl rfl ?_
    obtain ⟨q23, g24, e⟩ := ob_some e
    refine V_getR (pc := 66) (ci := 11) (k := 1) (b := q23) dX12_weigh_66 fl_X12_13 rfl (kd_sI (of_decide_eq_true g18)) g24 ?_
    refine V_bipush (pc := 69) (v := (53 : Int32)) dX12_weigh_69 (by decide) ?_
    refine V_iconst (pc := 71) (v := (3 : Int32)) dX12_weigh_71 (by decide) ?_
    refine V_iload_n (pc := 72) (i := 1) dX12_weigh_72 rfl rfl ?_
    refine V_imul (pc := 73) dX12_weigh_73 ?_
    refine V_iadd (pc := 74) dX12_weigh_74 ?_
    refine V_iconst (pc := 75) (v := (1 : Int32)) dX12_weigh_75 (by decide) ?_
    refine V_iadd (pc := 76) dX12_weigh_76 ?_
    refine V_iload_n (pc := 77) (i := 2) dX12_weigh_77 rfl rfl ?_
    obtain ⟨g25, e⟩ := gd_some e
    obtain ⟨g26, e⟩ := gd_some e
    refine V_iast (pc := 78) dX12_weigh_78 (of_decide_eq_true g25) (ix_in g26) ?_
    obtain ⟨h27, g28, e⟩ := ob_some e
    refine V_hp (Option.some.inj g28) ?_
    have k29 : kd h27 v0 = 11 := kd_eq (h := (setI (setI h16 q19 (((53 : Int32) + ((3 : Int32) * v1)) + (0 : Int32)).toNatClampNeg v2) q23 (((53 : Int32) + ((3 : Int32) * v1)) + (1 : Int32)).toNatClampNeg v2)) (Option.some.inj g28) (kd_sI (kd_sI (of_decide_eq_true g18)))
    have k30 : kd h27 q19 = 13 := kd_eq (h := (setI (setI h16 q19 (((53 : Int32) + ((3 : Int32) * v1)) + (0 : Int32)).toNatClampNeg v2) q23 (((53 : Int32) + ((3 : Int32) * v1)) + (1 : Int32)).toNatClampNeg v2)) (Option.some.inj g28) (kd_sI (kd_sI (of_decide_eq_true g21)))
    have k31 : kd h27 q23 = 13 := kd_eq (h := (setI (setI h16 q19 (((53 : Int32) + ((3 : Int32) * v1)) + (0 : Int32)).toNatClampNeg v2) q23 (((53 : Int32) + ((3 : Int32) * v1)) + (1 : Int32)).toNatClampNeg v2)) (Option.some.inj g28) (kd_sI (of_decide_eq_true g25))
    cases e
    exact V_vret (pc := 79) dX12_weigh_79 hF
  · rw [if_neg c32] at e
    exact V_pick [] rfl (r_X12_weigh_b50 h16 e hF)
set_option maxRecDepth 100000 in
def F_X12_weigh_b0 (v0 : Nat) (v1 : Int32) (v2 : Int32) (h : Hp) : Option (Unit × Hp) :=
  gd (decide (kd h v0 = 11)) <| ob (F_X12_noTrunk v0 v1 (setI h v0 0 (0 : Int32))) fun r3 => ob2 (F_X12_throwsIf v0 r3 (1 : Int32) (setI h v0 0 (0 : Int32))) fun r5 h6 => (if r5 = 0 then ob (F_X12_ofTrunk v0 v1 (0 : Int32) h6) fun r8 => gd (decide (kd h6 v0 = 11)) <| ob (F_X12_ofTrunk v0 v1 (1 : Int32) h6) fun r11 => ob (F_X12_in v2 r8 r11 h6) fun r13 => (if r13 = 0 then F_X12_weigh_b43 v0 v1 v2 v0 (1 : Int32) h6 else F_X12_weigh_b43 v0 v1 v2 v0 (0 : Int32) h6) else F_X12_weigh_b50 h6)
set_option maxHeartbeats 4000000 in
set_option maxRecDepth 100000 in
theorem r_X12_weigh_b0 (v0 : Nat) (v1 : Int32) (v2 : Int32) (h : Hp) {x : Cx} {r : Unit} {hz : Hp} (e : F_X12_weigh_b0 v0 v1 v2 h = some (r, hz)) (hF : Fin9 M_X12_weigh x none none hz) : V M_X12_weigh x 2 0 [(0, .ref v0), (1, .int v1), (2, .int v2)] [] h 0 0 := by
  unfold F_X12_weigh_b0 at e
  refine V_aload_n (pc := 0) (i := 0) dX12_weigh_0 rfl rfl ?_
  refine V_iconst (pc := 1) (v := (0 : Int32)) dX12_weigh_1 (by decide) ?_
  obtain ⟨g1, e⟩ := gd_some e
  refine V_putI (pc := 2) (ci := 11) (k := 0) dX12_weigh_2 fp_X12_3 rfl (of_decide_eq_true g1) ?_
  refine V_aload_n (pc := 5) (i := 0) dX12_weigh_5 rfl rfl ?_
  refine V_aload_n (pc := 6) (i := 0) dX12_weigh_6 rfl rfl ?_
  refine V_iload_n (pc := 7) (i := 1) dX12_weigh_7 rfl rfl ?_
  obtain ⟨r3, g2, e⟩ := ob_some e
  refine V_callV (pc := 8) (bc := 0) (bs := 0) (mc := 0) (ms := 0) (st := [.ref v0]) (As := [.int v1]) (a := v0) (h' := (setI h v0 0 (0 : Int32))) (r := some (.int r3)) dX12_weigh_8 ml_X12_287 (ci := 11) rfl (kd_sI (of_decide_eq_true g1)) rfl rfl (Nat.le_of_ble_eq_true rfl) (d' := 1) (by decide) (c_X12_noTrunk (l := x.2.1) v0 v1 (setI h v0 0 (0 : Int32)) g2) ?_
  refine V_iconst (pc := 11) (v := (1 : Int32)) dX12_weigh_11 (by decide) ?_
  obtain ⟨r5, h6, g4, e⟩ := ob2_some e
  refine V_callV (pc := 12) (bc := 0) (bs := 0) (mc := 0) (ms := 0) (st := []) (As := [.int r3, .int (1 : Int32)]) (a := v0) (h' := h6) (r := some (.int r5)) dX12_weigh_12 ml_X12_240 (ci := 11) rfl (kd_sI (of_decide_eq_true g1)) rfl rfl (Nat.le_of_ble_eq_true rfl) (d' := 0) (by decide) (c_X12_throwsIf (l := x.2.1) v0 r3 (1 : Int32) (setI h v0 0 (0 : Int32)) g4) ?_
  refine V_if_ne (pc := 15) (tgt := 50) dX12_weigh_15 (by decide) (fun c34 => ?_) (fun c34 => ?_)
  · rw [if_neg c34] at e
    exact V_pick [] rfl (r_X12_weigh_b50 h6 e hF)
  · rw [if_pos c34] at e
    refine V_pick [0, 1, 2] rfl ?_
    refine V_aload_n (pc := 18) (i := 0) dX12_weigh_18 rfl rfl ?_
    refine V_iload_n (pc := 19) (i := 2) dX12_weigh_19 rfl rfl ?_
    refine V_aload_n (pc := 20) (i := 0) dX12_weigh_20 rfl rfl ?_
    refine V_iload_n (pc := 21) (i := 1) dX12_weigh_21 rfl rfl ?_
    refine V_iconst (pc := 22) (v := (0 : Int32)) dX12_weigh_22 (by decide) ?_
    obtain ⟨r8, g7, e⟩ := ob_some e
    obtain ⟨g9, e⟩ := gd_some e
    refine V_callV (pc := 23) (bc := 0) (bs := 0) (mc := 0) (ms := 0) (st := [.int v2, .ref v0]) (As := [.int v1, .int (0 : Int32)]) (a := v0) (h' := h6) (r := some (.int r8)) dX12_weigh_23 ml_X12_265 (ci := 11) rfl (of_decide_eq_true g9) rfl rfl (Nat.le_of_ble_eq_true rfl) (d' := 0) (by decide) (c_X12_ofTrunk (l := x.2.1) v0 v1 (0 : Int32) h6 g7) ?_
    refine V_aload_n (pc := 26) (i := 0) dX12_weigh_26 rfl rfl ?_
    refine V_iload_n (pc := 27) (i := 1) dX12_weigh_27 rfl rfl ?_
    refine V_iconst (pc := 28) (v := (1 : Int32)) dX12_weigh_28 (by decide) ?_
    obtain ⟨r11, g10, e⟩ := ob_some e
    refine V_callV (pc := 29) (bc := 0) (bs := 0) (mc := 0) (ms := 0) (st := [.int r8, .int v2, .ref v0]) (As := [.int v1, .int (1 : Int32)]) (a := v0) (h' := h6) (r := some (.int r11)) dX12_weigh_29 ml_X12_265 (ci := 11) rfl (of_decide_eq_true g9) rfl rfl (Nat.le_of_ble_eq_true rfl) (d' := 0) (by decide) (c_X12_ofTrunk (l := x.2.1) v0 v1 (1 : Int32) h6 g10) ?_
    obtain ⟨r13, g12, e⟩ := ob_some e
    refine V_callS (pc := 32) (bc := 0) (bs := 0) (mc := 0) (ms := 0) (st := [.ref v0]) (As := [.int v2, .int r8, .int r11]) (h' := h6) (r := some (.int r13)) dX12_weigh_32 ml_X12_64 rfl rfl (Nat.le_of_ble_eq_true rfl) (d' := 0) (by decide) (c_X12_in (l := x.2.1) v2 r8 r11 h6 g12) ?_
    refine V_if_ne (pc := 35) (tgt := 42) dX12_weigh_35 (by decide) (fun c33 => ?_) (fun c33 => ?_)
    · rw [if_neg c33] at e
      refine V_pick [0, 1, 2] rfl ?_
      refine V_iconst (pc := 42) (v := (0 : Int32)) dX12_weigh_42 (by decide) ?_
      exact V_pick [0, 1, 2] rfl (r_X12_weigh_b43 v0 v1 v2 v0 (0 : Int32) h6 e hF)
    · rw [if_pos c33] at e
      refine V_pick [0, 1, 2] rfl ?_
      refine V_iconst (pc := 38) (v := (1 : Int32)) dX12_weigh_38 (by decide) ?_
      refine V_goto (pc := 39) (tgt := 43) dX12_weigh_39 (by decide) ?_
      exact V_pick [0, 1, 2] rfl (r_X12_weigh_b43 v0 v1 v2 v0 (1 : Int32) h6 e hF)
def F_X12_weigh (v0 : Nat) (v1 : Int32) (v2 : Int32) (h : Hp) : Option (Unit × Hp) := F_X12_weigh_b0 v0 v1 v2 h
theorem c_X12_weigh {l : Launch} (v0 : Nat) (v1 : Int32) (v2 : Int32) (h : Hp) {r : Unit} {hz : Hp} (e : F_X12_weigh v0 v1 v2 h = some (r, hz)) : Ct l yX12_weigh M_X12_weigh none 2 [.ref v0, .int v1, .int v2] h 0 0 none hz :=
  Ct_of rfl rfl (fun q => by cases q) (Nat.le_of_ble_eq_true rfl) (fun x _ hF => V_pick [0, 1, 2] rfl (r_X12_weigh_b0 v0 v1 v2 h e hF))
theorem dX12_snows_0 : decode cX12_snows 0 = .ok (.aload_n 0, 1) := by decide +kernel
theorem dX12_snows_1 : decode cX12_snows 1 = .ok (.iload_n 1, 1) := by decide +kernel
theorem dX12_snows_2 : decode cX12_snows 2 = .ok (.iconst 3, 1) := by decide +kernel
theorem dX12_snows_3 : decode cX12_snows 3 = .ok (.invokevirtual 131, 3) := by decide +kernel
theorem dX12_snows_6 : decode cX12_snows 6 = .ok (.istore_n 3, 1) := by decide +kernel
theorem dX12_snows_7 : decode cX12_snows 7 = .ok (.aload_n 0, 1) := by decide +kernel
theorem dX12_snows_8 : decode cX12_snows 8 = .ok (.getfield 13, 3) := by decide +kernel
theorem dX12_snows_11 : decode cX12_snows 11 = .ok (.bipush 11, 2) := by decide +kernel
theorem dX12_snows_13 : decode cX12_snows 13 = .ok (.iconst 4, 1) := by decide +kernel
theorem dX12_snows_14 : decode cX12_snows 14 = .ok (.iload_n 1, 1) := by decide +kernel
theorem dX12_snows_15 : decode cX12_snows 15 = .ok (.imul, 1) := by decide +kernel
theorem dX12_snows_16 : decode cX12_snows 16 = .ok (.iadd, 1) := by decide +kernel
theorem dX12_snows_17 : decode cX12_snows 17 = .ok (.iconst 3, 1) := by decide +kernel
theorem dX12_snows_18 : decode cX12_snows 18 = .ok (.iadd, 1) := by decide +kernel
theorem dX12_snows_19 : decode cX12_snows 19 = .ok (.iconst 0, 1) := by decide +kernel
theorem dX12_snows_20 : decode cX12_snows 20 = .ok (.sipush 999, 3) := by decide +kernel
theorem dX12_snows_23 : decode cX12_snows 23 = .ok (.iload_n 2, 1) := by decide +kernel
theorem dX12_snows_24 : decode cX12_snows 24 = .ok (.invokestatic 271, 3) := by decide +kernel
theorem dX12_snows_27 : decode cX12_snows 27 = .ok (.invokestatic 268, 3) := by decide +kernel
theorem dX12_snows_30 : decode cX12_snows 30 = .ok (.iastore, 1) := by decide +kernel
theorem dX12_snows_31 : decode cX12_snows 31 = .ok (.aload_n 0, 1) := by decide +kernel
theorem dX12_snows_32 : decode cX12_snows 32 = .ok (.iload_n 1, 1) := by decide +kernel
theorem dX12_snows_33 : decode cX12_snows 33 = .ok (.iconst 3, 1) := by decide +kernel
theorem dX12_snows_34 : decode cX12_snows 34 = .ok (.invokevirtual 131, 3) := by decide +kernel
theorem dX12_snows_37 : decode cX12_snows 37 = .ok (.iload_n 3, 1) := by decide +kernel
theorem dX12_snows_38 : decode cX12_snows 38 = .ok (.isub, 1) := by decide +kernel
theorem dX12_snows_39 : decode cX12_snows 39 = .ok (.ireturn, 1) := by decide +kernel
set_option maxRecDepth 100000 in
def F_X12_snows_b0 (v0 : Nat) (v1 : Int32) (v2 : Int32) (h : Hp) : Option (Int32 × Hp) :=
  ob (F_X12_ofRoom v0 v1 (3 : Int32) h) fun r2 => gd (decide (kd h v0 = 11)) <| ob (zR h v0 1) fun q4 => gd (decide (kd h q4 = 13)) <| gd (ix (((11 : Int32) + ((4 : Int32) * v1)) + (3 : Int32)) (zl h q4)) <| ob (F_X12_ofRoom v0 v1 (3 : Int32) (setI h q4 (((11 : Int32) + ((4 : Int32) * v1)) + (3 : Int32)).toNatClampNeg (jmax (0 : Int32) (jmin (999 : Int32) v2)))) fun r9 => some (r9 - r2, setI h q4 (((11 : Int32) + ((4 : Int32) * v1)) + (3 : Int32)).toNatClampNeg (jmax (0 : Int32) (jmin (999 : Int32) v2)))
set_option maxHeartbeats 4000000 in
set_option maxRecDepth 100000 in
theorem r_X12_snows_b0 (v0 : Nat) (v1 : Int32) (v2 : Int32) (h : Hp) {x : Cx} {r : Int32} {hz : Hp} (e : F_X12_snows_b0 v0 v1 v2 h = some (r, hz)) (hF : Fin9 M_X12_snows x (some .int) (some (.int r)) hz) : V M_X12_snows x 1 0 [(0, .ref v0), (1, .int v1), (2, .int v2)] [] h 0 0 := by
  unfold F_X12_snows_b0 at e
  refine V_aload_n (pc := 0) (i := 0) dX12_snows_0 rfl rfl ?_
  refine V_iload_n (pc := 1) (i := 1) dX12_snows_1 rfl rfl ?_
  refine V_iconst (pc := 2) (v := (3 : Int32)) dX12_snows_2 (by decide) ?_
  obtain ⟨r2, g1, e⟩ := ob_some e
  obtain ⟨g3, e⟩ := gd_some e
  refine V_callV (pc := 3) (bc := 0) (bs := 0) (mc := 0) (ms := 0) (st := []) (As := [.int v1, .int (3 : Int32)]) (a := v0) (h' := h) (r := some (.int r2)) dX12_snows_3 ml_X12_131 (ci := 11) rfl (of_decide_eq_true g3) rfl rfl (Nat.le_of_ble_eq_true rfl) (d' := 0) (by decide) (c_X12_ofRoom (l := x.2.1) v0 v1 (3 : Int32) h g1) ?_
  refine V_istore_n (pc := 6) (i := 3) (lv' := [(3, .int r2), (0, .ref v0), (1, .int v1), (2, .int v2)]) dX12_snows_6 rfl (by decide) rfl ?_
  refine V_aload_n (pc := 7) (i := 0) dX12_snows_7 rfl rfl ?_
  obtain ⟨q4, g5, e⟩ := ob_some e
  refine V_getR (pc := 8) (ci := 11) (k := 1) (b := q4) dX12_snows_8 fl_X12_13 rfl (of_decide_eq_true g3) g5 ?_
  refine V_bipush (pc := 11) (v := (11 : Int32)) dX12_snows_11 (by decide) ?_
  refine V_iconst (pc := 13) (v := (4 : Int32)) dX12_snows_13 (by decide) ?_
  refine V_iload_n (pc := 14) (i := 1) dX12_snows_14 rfl rfl ?_
  refine V_imul (pc := 15) dX12_snows_15 ?_
  refine V_iadd (pc := 16) dX12_snows_16 ?_
  refine V_iconst (pc := 17) (v := (3 : Int32)) dX12_snows_17 (by decide) ?_
  refine V_iadd (pc := 18) dX12_snows_18 ?_
  refine V_iconst (pc := 19) (v := (0 : Int32)) dX12_snows_19 (by decide) ?_
  refine V_sipush (pc := 20) (v := (999 : Int32)) dX12_snows_20 (by decide) ?_
  refine V_iload_n (pc := 23) (i := 2) dX12_snows_23 rfl rfl ?_
  refine V_min (pc := 24) dX12_snows_24 wm_X12_271 (by decide) (Nat.le_of_ble_eq_true rfl) ?_
  refine V_max (pc := 27) dX12_snows_27 wm_X12_268 (by decide) (Nat.le_of_ble_eq_true rfl) ?_
  obtain ⟨g6, e⟩ := gd_some e
  obtain ⟨g7, e⟩ := gd_some e
  refine V_iast (pc := 30) dX12_snows_30 (of_decide_eq_true g6) (ix_in g7) ?_
  refine V_aload_n (pc := 31) (i := 0) dX12_snows_31 rfl rfl ?_
  refine V_iload_n (pc := 32) (i := 1) dX12_snows_32 rfl rfl ?_
  refine V_iconst (pc := 33) (v := (3 : Int32)) dX12_snows_33 (by decide) ?_
  obtain ⟨r9, g8, e⟩ := ob_some e
  refine V_callV (pc := 34) (bc := 0) (bs := 0) (mc := 0) (ms := 0) (st := []) (As := [.int v1, .int (3 : Int32)]) (a := v0) (h' := (setI h q4 (((11 : Int32) + ((4 : Int32) * v1)) + (3 : Int32)).toNatClampNeg (jmax (0 : Int32) (jmin (999 : Int32) v2)))) (r := some (.int r9)) dX12_snows_34 ml_X12_131 (ci := 11) rfl (kd_sI (of_decide_eq_true g3)) rfl rfl (Nat.le_of_ble_eq_true rfl) (d' := 0) (by decide) (c_X12_ofRoom (l := x.2.1) v0 v1 (3 : Int32) (setI h q4 (((11 : Int32) + ((4 : Int32) * v1)) + (3 : Int32)).toNatClampNeg (jmax (0 : Int32) (jmin (999 : Int32) v2))) g8) ?_
  refine V_iload_n (pc := 37) (i := 3) dX12_snows_37 rfl rfl ?_
  refine V_isub (pc := 38) dX12_snows_38 ?_
  cases e
  exact V_iret (pc := 39) dX12_snows_39 hF
def F_X12_snows (v0 : Nat) (v1 : Int32) (v2 : Int32) (h : Hp) : Option (Int32 × Hp) := F_X12_snows_b0 v0 v1 v2 h
theorem c_X12_snows {l : Launch} (v0 : Nat) (v1 : Int32) (v2 : Int32) (h : Hp) {r : Int32} {hz : Hp} (e : F_X12_snows v0 v1 v2 h = some (r, hz)) : Ct l yX12_snows M_X12_snows (some .int) 1 [.ref v0, .int v1, .int v2] h 0 0 (some (.int r)) hz :=
  Ct_of rfl rfl (fun q => by cases q) (Nat.le_of_ble_eq_true rfl) (fun x _ hF => V_pick [0, 1, 2] rfl (r_X12_snows_b0 v0 v1 v2 h e hF))
theorem dX12_night_0 : decode cX12_night 0 = .ok (.aload_n 0, 1) := by decide +kernel
theorem dX12_night_1 : decode cX12_night 1 = .ok (.iconst 0, 1) := by decide +kernel
theorem dX12_night_2 : decode cX12_night 2 = .ok (.putfield 3, 3) := by decide +kernel
theorem dX12_night_5 : decode cX12_night 5 = .ok (.aload_n 0, 1) := by decide +kernel
theorem dX12_night_6 : decode cX12_night 6 = .ok (.iload_n 1, 1) := by decide +kernel
theorem dX12_night_7 : decode cX12_night 7 = .ok (.iconst 1, 1) := by decide +kernel
theorem dX12_night_8 : decode cX12_night 8 = .ok (.sipush 500, 3) := by decide +kernel
theorem dX12_night_11 : decode cX12_night 11 = .ok (.invokestatic 64, 3) := by decide +kernel
theorem dX12_night_14 : decode cX12_night 14 = .ok (.ifCond .ne 7, 3) := by decide +kernel
theorem dX12_night_17 : decode cX12_night 17 = .ok (.iconst 1, 1) := by decide +kernel
theorem dX12_night_18 : decode cX12_night 18 = .ok (.goto 4, 3) := by decide +kernel
theorem dX12_night_21 : decode cX12_night 21 = .ok (.iconst 0, 1) := by decide +kernel
theorem dX12_night_22 : decode cX12_night 22 = .ok (.iconst 1, 1) := by decide +kernel
theorem dX12_night_23 : decode cX12_night 23 = .ok (.invokevirtual 240, 3) := by decide +kernel
theorem dX12_night_26 : decode cX12_night 26 = .ok (.ifCond .eq 5, 3) := by decide +kernel
theorem dX12_night_29 : decode cX12_night 29 = .ok (.iconst 0, 1) := by decide +kernel
theorem dX12_night_30 : decode cX12_night 30 = .ok (.ireturn, 1) := by decide +kernel
theorem dX12_night_31 : decode cX12_night 31 = .ok (.iconst 0, 1) := by decide +kernel
theorem dX12_night_32 : decode cX12_night 32 = .ok (.istore_n 2, 1) := by decide +kernel
theorem dX12_night_33 : decode cX12_night 33 = .ok (.iconst 0, 1) := by decide +kernel
theorem dX12_night_34 : decode cX12_night 34 = .ok (.istore_n 3, 1) := by decide +kernel
theorem dX12_night_35 : decode cX12_night 35 = .ok (.iload_n 3, 1) := by decide +kernel
theorem dX12_night_36 : decode cX12_night 36 = .ok (.aload_n 0, 1) := by decide +kernel
theorem dX12_night_37 : decode cX12_night 37 = .ok (.invokevirtual 60, 3) := by decide +kernel
theorem dX12_night_40 : decode cX12_night 40 = .ok (.if_icmp .ge 62, 3) := by decide +kernel
theorem dX12_night_43 : decode cX12_night 43 = .ok (.aload_n 0, 1) := by decide +kernel
theorem dX12_night_44 : decode cX12_night 44 = .ok (.getfield 13, 3) := by decide +kernel
theorem dX12_night_47 : decode cX12_night 47 = .ok (.bipush 10, 2) := by decide +kernel
theorem dX12_night_49 : decode cX12_night 49 = .ok (.ldc_w 414, 3) := by decide +kernel
theorem dX12_night_52 : decode cX12_night 52 = .ok (.aload_n 0, 1) := by decide +kernel
theorem dX12_night_53 : decode cX12_night 53 = .ok (.getfield 13, 3) := by decide +kernel
theorem dX12_night_56 : decode cX12_night 56 = .ok (.bipush 10, 2) := by decide +kernel
theorem dX12_night_58 : decode cX12_night 58 = .ok (.iaload, 1) := by decide +kernel
theorem dX12_night_59 : decode cX12_night 59 = .ok (.imul, 1) := by decide +kernel
theorem dX12_night_60 : decode cX12_night 60 = .ok (.sipush 12345, 3) := by decide +kernel
theorem dX12_night_63 : decode cX12_night 63 = .ok (.iadd, 1) := by decide +kernel
theorem dX12_night_64 : decode cX12_night 64 = .ok (.iastore, 1) := by decide +kernel
theorem dX12_night_65 : decode cX12_night 65 = .ok (.iload_n 2, 1) := by decide +kernel
theorem dX12_night_66 : decode cX12_night 66 = .ok (.aload_n 0, 1) := by decide +kernel
theorem dX12_night_67 : decode cX12_night 67 = .ok (.iload_n 3, 1) := by decide +kernel
theorem dX12_night_68 : decode cX12_night 68 = .ok (.aload_n 0, 1) := by decide +kernel
theorem dX12_night_69 : decode cX12_night 69 = .ok (.iload_n 3, 1) := by decide +kernel
theorem dX12_night_70 : decode cX12_night 70 = .ok (.iconst 3, 1) := by decide +kernel
theorem dX12_night_71 : decode cX12_night 71 = .ok (.invokevirtual 131, 3) := by decide +kernel
theorem dX12_night_74 : decode cX12_night 74 = .ok (.aload_n 0, 1) := by decide +kernel
theorem dX12_night_75 : decode cX12_night 75 = .ok (.getfield 13, 3) := by decide +kernel
theorem dX12_night_78 : decode cX12_night 78 = .ok (.bipush 10, 2) := by decide +kernel
theorem dX12_night_80 : decode cX12_night 80 = .ok (.iaload, 1) := by decide +kernel
theorem dX12_night_81 : decode cX12_night 81 = .ok (.bipush 16, 2) := by decide +kernel
theorem dX12_night_83 : decode cX12_night 83 = .ok (.ishr, 1) := by decide +kernel
theorem dX12_night_84 : decode cX12_night 84 = .ok (.sipush 32767, 3) := by decide +kernel
theorem dX12_night_87 : decode cX12_night 87 = .ok (.iand, 1) := by decide +kernel
theorem dX12_night_88 : decode cX12_night 88 = .ok (.iload_n 1, 1) := by decide +kernel
theorem dX12_night_89 : decode cX12_night 89 = .ok (.irem, 1) := by decide +kernel
theorem dX12_night_90 : decode cX12_night 90 = .ok (.iadd, 1) := by decide +kernel
theorem dX12_night_91 : decode cX12_night 91 = .ok (.invokevirtual 415, 3) := by decide +kernel
theorem dX12_night_94 : decode cX12_night 94 = .ok (.iadd, 1) := by decide +kernel
theorem dX12_night_95 : decode cX12_night 95 = .ok (.istore_n 2, 1) := by decide +kernel
theorem dX12_night_96 : decode cX12_night 96 = .ok (.iinc 3 1, 3) := by decide +kernel
theorem dX12_night_99 : decode cX12_night 99 = .ok (.goto (-64), 3) := by decide +kernel
theorem dX12_night_102 : decode cX12_night 102 = .ok (.iload_n 2, 1) := by decide +kernel
theorem dX12_night_103 : decode cX12_night 103 = .ok (.ireturn, 1) := by decide +kernel
set_option maxRecDepth 100000 in
def F_X12_night_l35 (v0 : Nat) (v1 : Int32) (v2 : Int32) (v3 : Int32) (h : Hp) : Option ((Int32 × Int32 × Hp) ⊕ (Int32 × Hp)) :=
  ob (F_X12_rooms v0 h) fun r9 => gd (decide (kd h v0 = 11)) <| (if r9 ≤ v3 then some (.inr (v2, h)) else ob (zR h v0 1) fun q11 => ob (zR h v0 1) fun q13 => gd (decide (kd h q13 = 13)) <| gd (ix (10 : Int32) (zl h q13)) <| gd (decide (kd h q11 = 13)) <| gd (ix (10 : Int32) (zl h q11)) <| ob (some (setI h q11 ((10 : Int32)).toNatClampNeg (((1103515245 : Int32) * (zI h q13 ((10 : Int32)).toNatClampNeg)) + (12345 : Int32)))) fun h19 => ob (F_X12_ofRoom v0 v3 (3 : Int32) h19) fun r25 => ob (zR h19 v0 1) fun q26 => gd (decide (kd h19 q26 = 13)) <| gd (ix (10 : Int32) (zl h19 q26)) <| gd (decide (¬ v1 = 0)) <| ob2 (F_X12_snows v0 v3 (r25 + ((((zI h19 q26 ((10 : Int32)).toNatClampNeg) >>> ((16 : Int32) &&& 31)) &&& (32767 : Int32)) - (((zI h19 q26 ((10 : Int32)).toNatClampNeg) >>> ((16 : Int32) &&& 31)) &&& (32767 : Int32)) / v1 * v1)) h19) fun r32 h33 => some (.inl (v2 + r32, v3 + (1 : Int32), h33)))
set_option maxHeartbeats 4000000 in
set_option maxRecDepth 100000 in
theorem r_X12_night_l35 (v0 : Nat) (v1 : Int32) (v2 : Int32) (v3 : Int32) (h : Hp) {x : Cx} {o : ((Int32 × Int32 × Hp) ⊕ (Int32 × Hp))} (e : F_X12_night_l35 v0 v1 v2 v3 h = some o) (kI : ∀ z, o = .inl z → V M_X12_night x 2 35 [(0, .ref v0), (1, .int v1), (2, .int z.1), (3, .int z.2.1)] [] z.2.2 0 0) (kE102 : ∀ z : Int32 × Hp, o = .inr z → V M_X12_night x 2 102 [(2, .int z.1)] [] z.2 0 0) : V M_X12_night x 2 35 [(0, .ref v0), (1, .int v1), (2, .int v2), (3, .int v3)] [] h 0 0 := by
  unfold F_X12_night_l35 at e
  refine V_iload_n (pc := 35) (i := 3) dX12_night_35 rfl rfl ?_
  refine V_aload_n (pc := 36) (i := 0) dX12_night_36 rfl rfl ?_
  obtain ⟨r9, g8, e⟩ := ob_some e
  obtain ⟨g10, e⟩ := gd_some e
  refine V_callV (pc := 37) (bc := 0) (bs := 0) (mc := 0) (ms := 0) (st := [.int v3]) (As := []) (a := v0) (h' := h) (r := some (.int r9)) dX12_night_37 ml_X12_60 (ci := 11) rfl (of_decide_eq_true g10) rfl rfl (Nat.le_of_ble_eq_true rfl) (d' := 0) (by decide) (c_X12_rooms (l := x.2.1) v0 h g8) ?_
  refine V_icmp_ge (pc := 40) (tgt := 102) dX12_night_40 (by decide) (fun c34 => ?_) (fun c34 => ?_)
  · rw [if_pos c34] at e
    cases e
    exact V_pick [2] rfl (kE102 (v2, h) rfl)
  · rw [if_neg c34] at e
    refine V_pick [0, 1, 2, 3] rfl ?_
    refine V_aload_n (pc := 43) (i := 0) dX12_night_43 rfl rfl ?_
    obtain ⟨q11, g12, e⟩ := ob_some e
    refine V_getR (pc := 44) (ci := 11) (k := 1) (b := q11) dX12_night_44 fl_X12_13 rfl (of_decide_eq_true g10) g12 ?_
    refine V_bipush (pc := 47) (v := (10 : Int32)) dX12_night_47 (by decide) ?_
    refine V_ldcw (pc := 49) (v := (1103515245 : Int32)) dX12_night_49 (wk_X12_414) ?_
    refine V_aload_n (pc := 52) (i := 0) dX12_night_52 rfl rfl ?_
    obtain ⟨q13, g14, e⟩ := ob_some e
    refine V_getR (pc := 53) (ci := 11) (k := 1) (b := q13) dX12_night_53 fl_X12_13 rfl (of_decide_eq_true g10) g14 ?_
    refine V_bipush (pc := 56) (v := (10 : Int32)) dX12_night_56 (by decide) ?_
    obtain ⟨g15, e⟩ := gd_some e
    obtain ⟨g16, e⟩ := gd_some e
    refine V_iald (pc := 58) dX12_night_58 (of_decide_eq_true g15) (ix_in g16) ?_
    refine V_imul (pc := 59) dX12_night_59 ?_
    refine V_sipush (pc := 60) (v := (12345 : Int32)) dX12_night_60 (by decide) ?_
    refine V_iadd (pc := 63) dX12_night_63 ?_
    obtain ⟨g17, e⟩ := gd_some e
    obtain ⟨g18, e⟩ := gd_some e
    refine V_iast (pc := 64) dX12_night_64 (of_decide_eq_true g17) (ix_in g18) ?_
    obtain ⟨h19, g20, e⟩ := ob_some e
    refine V_hp (Option.some.inj g20) ?_
    have k21 : kd h19 v0 = 11 := kd_eq (h := (setI h q11 ((10 : Int32)).toNatClampNeg (((1103515245 : Int32) * (zI h q13 ((10 : Int32)).toNatClampNeg)) + (12345 : Int32)))) (Option.some.inj g20) (kd_sI (of_decide_eq_true g10))
    have k22 : kd h19 q13 = 13 := kd_eq (h := (setI h q11 ((10 : Int32)).toNatClampNeg (((1103515245 : Int32) * (zI h q13 ((10 : Int32)).toNatClampNeg)) + (12345 : Int32)))) (Option.some.inj g20) (kd_sI (of_decide_eq_true g15))
    have k23 : kd h19 q11 = 13 := kd_eq (h := (setI h q11 ((10 : Int32)).toNatClampNeg (((1103515245 : Int32) * (zI h q13 ((10 : Int32)).toNatClampNeg)) + (12345 : Int32)))) (Option.some.inj g20) (kd_sI (of_decide_eq_true g17))
    refine V_iload_n (pc := 65) (i := 2) dX12_night_65 rfl rfl ?_
    refine V_aload_n (pc := 66) (i := 0) dX12_night_66 rfl rfl ?_
    refine V_iload_n (pc := 67) (i := 3) dX12_night_67 rfl rfl ?_
    refine V_aload_n (pc := 68) (i := 0) dX12_night_68 rfl rfl ?_
    refine V_iload_n (pc := 69) (i := 3) dX12_night_69 rfl rfl ?_
    refine V_iconst (pc := 70) (v := (3 : Int32)) dX12_night_70 (by decide) ?_
    obtain ⟨r25, g24, e⟩ := ob_some e
    refine V_callV (pc := 71) (bc := 0) (bs := 0) (mc := 0) (ms := 0) (st := [.int v3, .ref v0, .int v2]) (As := [.int v3, .int (3 : Int32)]) (a := v0) (h' := h19) (r := some (.int r25)) dX12_night_71 ml_X12_131 (ci := 11) rfl k21 rfl rfl (Nat.le_of_ble_eq_true rfl) (d' := 0) (by decide) (c_X12_ofRoom (l := x.2.1) v0 v3 (3 : Int32) h19 g24) ?_
    refine V_aload_n (pc := 74) (i := 0) dX12_night_74 rfl rfl ?_
    obtain ⟨q26, g27, e⟩ := ob_some e
    refine V_getR (pc := 75) (ci := 11) (k := 1) (b := q26) dX12_night_75 fl_X12_13 rfl k21 g27 ?_
    refine V_bipush (pc := 78) (v := (10 : Int32)) dX12_night_78 (by decide) ?_
    obtain ⟨g28, e⟩ := gd_some e
    obtain ⟨g29, e⟩ := gd_some e
    refine V_iald (pc := 80) dX12_night_80 (of_decide_eq_true g28) (ix_in g29) ?_
    refine V_bipush (pc := 81) (v := (16 : Int32)) dX12_night_81 (by decide) ?_
    refine V_ishr (pc := 83) dX12_night_83 ?_
    refine V_sipush (pc := 84) (v := (32767 : Int32)) dX12_night_84 (by decide) ?_
    refine V_iand (pc := 87) dX12_night_87 ?_
    refine V_iload_n (pc := 88) (i := 1) dX12_night_88 rfl rfl ?_
    obtain ⟨g30, e⟩ := gd_some e
    refine V_irem (pc := 89) dX12_night_89 (of_decide_eq_true g30) ?_
    refine V_iadd (pc := 90) dX12_night_90 ?_
    obtain ⟨r32, h33, g31, e⟩ := ob2_some e
    refine V_callV (pc := 91) (bc := 0) (bs := 0) (mc := 0) (ms := 0) (st := [.int v2]) (As := [.int v3, .int (r25 + ((((zI h19 q26 ((10 : Int32)).toNatClampNeg) >>> ((16 : Int32) &&& 31)) &&& (32767 : Int32)) - (((zI h19 q26 ((10 : Int32)).toNatClampNeg) >>> ((16 : Int32) &&& 31)) &&& (32767 : Int32)) / v1 * v1))]) (a := v0) (h' := h33) (r := some (.int r32)) dX12_night_91 ml_X12_415 (ci := 11) rfl k21 rfl rfl (Nat.le_of_ble_eq_true rfl) (d' := 1) (by decide) (c_X12_snows (l := x.2.1) v0 v3 (r25 + ((((zI h19 q26 ((10 : Int32)).toNatClampNeg) >>> ((16 : Int32) &&& 31)) &&& (32767 : Int32)) - (((zI h19 q26 ((10 : Int32)).toNatClampNeg) >>> ((16 : Int32) &&& 31)) &&& (32767 : Int32)) / v1 * v1)) h19 g31) ?_
    refine V_iadd (pc := 94) dX12_night_94 ?_
    refine V_istore_n (pc := 95) (i := 2) (lv' := [(2, .int (v2 + r32)), (0, .ref v0), (1, .int v1), (3, .int v3)]) dX12_night_95 rfl (by decide) rfl ?_
    refine V_iinc (pc := 96) (i := 3) (u := v3 + (1 : Int32)) (lv' := [(3, .int (v3 + (1 : Int32))), (2, .int (v2 + r32)), (0, .ref v0), (1, .int v1)]) dX12_night_96 rfl rfl (by decide) rfl ?_
    refine V_goto (pc := 99) (tgt := 35) dX12_night_99 (by decide) ?_
    cases e
    exact V_pick [2, 3, 1, 0] rfl (kI (v2 + r32, v3 + (1 : Int32), h33) rfl)
set_option maxRecDepth 100000 in
def F_X12_night_b22 (v0 : Nat) (v1 : Int32) (t0 : Nat) (t1 : Int32) (h : Hp) : Option (Int32 × Hp) :=
  ob2 (F_X12_throwsIf t0 t1 (1 : Int32) h) fun r5 h6 => gd (decide (kd h t0 = 11)) <| (if r5 = 0 then ob (iter (fun z : Int32 × Int32 × Hp => F_X12_night_l35 v0 v1 z.1 z.2.1 z.2.2) FU ((0 : Int32), (0 : Int32), h6)) (fun z => un2 z fun w35 h36 => some (w35, h36)) else some ((0 : Int32), h6))
set_option maxHeartbeats 4000000 in
set_option maxRecDepth 100000 in
theorem r_X12_night_b22 (v0 : Nat) (v1 : Int32) (t0 : Nat) (t1 : Int32) (h : Hp) {x : Cx} {r : Int32} {hz : Hp} (e : F_X12_night_b22 v0 v1 t0 t1 h = some (r, hz)) (hF : Fin9 M_X12_night x (some .int) (some (.int r)) hz) : V M_X12_night x 2 22 [(0, .ref v0), (1, .int v1)] [.int t1, .ref t0] h 0 0 := by
  unfold F_X12_night_b22 at e
  refine V_iconst (pc := 22) (v := (1 : Int32)) dX12_night_22 (by decide) ?_
  obtain ⟨r5, h6, g4, e⟩ := ob2_some e
  obtain ⟨g7, e⟩ := gd_some e
  refine V_callV (pc := 23) (bc := 0) (bs := 0) (mc := 0) (ms := 0) (st := []) (As := [.int t1, .int (1 : Int32)]) (a := t0) (h' := h6) (r := some (.int r5)) dX12_night_23 ml_X12_240 (ci := 11) rfl (of_decide_eq_true g7) rfl rfl (Nat.le_of_ble_eq_true rfl) (d' := 0) (by decide) (c_X12_throwsIf (l := x.2.1) t0 t1 (1 : Int32) h g4) ?_
  refine V_if_eq (pc := 26) (tgt := 31) dX12_night_26 (by decide) (fun c39 => ?_) (fun c39 => ?_)
  · rw [if_pos c39] at e
    refine V_pick [0, 1] rfl ?_
    refine V_iconst (pc := 31) (v := (0 : Int32)) dX12_night_31 (by decide) ?_
    refine V_istore_n (pc := 32) (i := 2) (lv' := [(2, .int (0 : Int32)), (0, .ref v0), (1, .int v1)]) dX12_night_32 rfl (by decide) rfl ?_
    refine V_iconst (pc := 33) (v := (0 : Int32)) dX12_night_33 (by decide) ?_
    refine V_istore_n (pc := 34) (i := 3) (lv' := [(3, .int (0 : Int32)), (2, .int (0 : Int32)), (0, .ref v0), (1, .int v1)]) dX12_night_34 rfl (by decide) rfl ?_
    refine V_pick [2, 3, 1, 0] rfl ?_
    obtain ⟨y37, g38, e⟩ := ob_some e
    refine iter_V (P := fun z : Int32 × Int32 × Hp => V M_X12_night x 2 35 [(0, .ref v0), (1, .int v1), (2, .int z.1), (3, .int z.2.1)] [] z.2.2 0 0) (E := fun z : Int32 × Hp => V M_X12_night x 2 102 [(2, .int z.1)] [] z.2 0 0) (fun z o e9 k1 k2 => r_X12_night_l35 v0 v1 z.1 z.2.1 z.2.2 e9 (fun z hz9 => k1 z hz9) (fun z hz9 => k2 _ hz9)) _ _ _ g38 ?_
    clear g38
    obtain ⟨w35, h36⟩ := y37
    replace e : (some (w35, h36)) = some (r, hz) := e
    show V M_X12_night x 2 102 [(2, .int w35)] [] h36 0 0
    refine V_iload_n (pc := 102) (i := 2) dX12_night_102 rfl rfl ?_
    cases e
    exact V_iret (pc := 103) dX12_night_103 hF
  · rw [if_neg c39] at e
    refine V_pick [] rfl ?_
    refine V_iconst (pc := 29) (v := (0 : Int32)) dX12_night_29 (by decide) ?_
    cases e
    exact V_iret (pc := 30) dX12_night_30 hF
set_option maxRecDepth 100000 in
def F_X12_night_b0 (v0 : Nat) (v1 : Int32) (h : Hp) : Option (Int32 × Hp) :=
  gd (decide (kd h v0 = 11)) <| ob (F_X12_in v1 (1 : Int32) (500 : Int32) (setI h v0 0 (0 : Int32))) fun r3 => (if r3 = 0 then F_X12_night_b22 v0 v1 v0 (1 : Int32) (setI h v0 0 (0 : Int32)) else F_X12_night_b22 v0 v1 v0 (0 : Int32) (setI h v0 0 (0 : Int32)))
set_option maxHeartbeats 4000000 in
set_option maxRecDepth 100000 in
theorem r_X12_night_b0 (v0 : Nat) (v1 : Int32) (h : Hp) {x : Cx} {r : Int32} {hz : Hp} (e : F_X12_night_b0 v0 v1 h = some (r, hz)) (hF : Fin9 M_X12_night x (some .int) (some (.int r)) hz) : V M_X12_night x 2 0 [(0, .ref v0), (1, .int v1)] [] h 0 0 := by
  unfold F_X12_night_b0 at e
  refine V_aload_n (pc := 0) (i := 0) dX12_night_0 rfl rfl ?_
  refine V_iconst (pc := 1) (v := (0 : Int32)) dX12_night_1 (by decide) ?_
  obtain ⟨g1, e⟩ := gd_some e
  refine V_putI (pc := 2) (ci := 11) (k := 0) dX12_night_2 fp_X12_3 rfl (of_decide_eq_true g1) ?_
  refine V_aload_n (pc := 5) (i := 0) dX12_night_5 rfl rfl ?_
  refine V_iload_n (pc := 6) (i := 1) dX12_night_6 rfl rfl ?_
  refine V_iconst (pc := 7) (v := (1 : Int32)) dX12_night_7 (by decide) ?_
  refine V_sipush (pc := 8) (v := (500 : Int32)) dX12_night_8 (by decide) ?_
  obtain ⟨r3, g2, e⟩ := ob_some e
  refine V_callS (pc := 11) (bc := 0) (bs := 0) (mc := 0) (ms := 0) (st := [.ref v0]) (As := [.int v1, .int (1 : Int32), .int (500 : Int32)]) (h' := (setI h v0 0 (0 : Int32))) (r := some (.int r3)) dX12_night_11 ml_X12_64 rfl rfl (Nat.le_of_ble_eq_true rfl) (d' := 0) (by decide) (c_X12_in (l := x.2.1) v1 (1 : Int32) (500 : Int32) (setI h v0 0 (0 : Int32)) g2) ?_
  refine V_if_ne (pc := 14) (tgt := 21) dX12_night_14 (by decide) (fun c40 => ?_) (fun c40 => ?_)
  · rw [if_neg c40] at e
    refine V_pick [0, 1] rfl ?_
    refine V_iconst (pc := 21) (v := (0 : Int32)) dX12_night_21 (by decide) ?_
    exact V_pick [0, 1] rfl (r_X12_night_b22 v0 v1 v0 (0 : Int32) (setI h v0 0 (0 : Int32)) e hF)
  · rw [if_pos c40] at e
    refine V_pick [0, 1] rfl ?_
    refine V_iconst (pc := 17) (v := (1 : Int32)) dX12_night_17 (by decide) ?_
    refine V_goto (pc := 18) (tgt := 22) dX12_night_18 (by decide) ?_
    exact V_pick [0, 1] rfl (r_X12_night_b22 v0 v1 v0 (1 : Int32) (setI h v0 0 (0 : Int32)) e hF)
def F_X12_night (v0 : Nat) (v1 : Int32) (h : Hp) : Option (Int32 × Hp) := F_X12_night_b0 v0 v1 h
theorem c_X12_night {l : Launch} (v0 : Nat) (v1 : Int32) (h : Hp) {r : Int32} {hz : Hp} (e : F_X12_night v0 v1 h = some (r, hz)) : Ct l yX12_night M_X12_night (some .int) 2 [.ref v0, .int v1] h 0 0 (some (.int r)) hz :=
  Ct_of rfl rfl (fun q => by cases q) (Nat.le_of_ble_eq_true rfl) (fun x _ hF => V_pick [0, 1] rfl (r_X12_night_b0 v0 v1 h e hF))
theorem dX12_melt_0 : decode cX12_melt 0 = .ok (.aload_n 0, 1) := by decide +kernel
theorem dX12_melt_1 : decode cX12_melt 1 = .ok (.iconst 0, 1) := by decide +kernel
theorem dX12_melt_2 : decode cX12_melt 2 = .ok (.putfield 3, 3) := by decide +kernel
theorem dX12_melt_5 : decode cX12_melt 5 = .ok (.aload_n 0, 1) := by decide +kernel
theorem dX12_melt_6 : decode cX12_melt 6 = .ok (.iload_n 1, 1) := by decide +kernel
theorem dX12_melt_7 : decode cX12_melt 7 = .ok (.ifCond .ge 7, 3) := by decide +kernel
theorem dX12_melt_10 : decode cX12_melt 10 = .ok (.iconst 1, 1) := by decide +kernel
theorem dX12_melt_11 : decode cX12_melt 11 = .ok (.goto 4, 3) := by decide +kernel
theorem dX12_melt_14 : decode cX12_melt 14 = .ok (.iconst 0, 1) := by decide +kernel
theorem dX12_melt_15 : decode cX12_melt 15 = .ok (.iconst 1, 1) := by decide +kernel
theorem dX12_melt_16 : decode cX12_melt 16 = .ok (.invokevirtual 240, 3) := by decide +kernel
theorem dX12_melt_19 : decode cX12_melt 19 = .ok (.ifCond .eq 5, 3) := by decide +kernel
theorem dX12_melt_22 : decode cX12_melt 22 = .ok (.iconst 0, 1) := by decide +kernel
theorem dX12_melt_23 : decode cX12_melt 23 = .ok (.ireturn, 1) := by decide +kernel
theorem dX12_melt_24 : decode cX12_melt 24 = .ok (.iconst 0, 1) := by decide +kernel
theorem dX12_melt_25 : decode cX12_melt 25 = .ok (.istore_n 2, 1) := by decide +kernel
theorem dX12_melt_26 : decode cX12_melt 26 = .ok (.iconst 0, 1) := by decide +kernel
theorem dX12_melt_27 : decode cX12_melt 27 = .ok (.istore_n 3, 1) := by decide +kernel
theorem dX12_melt_28 : decode cX12_melt 28 = .ok (.iload_n 3, 1) := by decide +kernel
theorem dX12_melt_29 : decode cX12_melt 29 = .ok (.aload_n 0, 1) := by decide +kernel
theorem dX12_melt_30 : decode cX12_melt 30 = .ok (.invokevirtual 60, 3) := by decide +kernel
theorem dX12_melt_33 : decode cX12_melt 33 = .ok (.if_icmp .ge 25, 3) := by decide +kernel
theorem dX12_melt_36 : decode cX12_melt 36 = .ok (.iload_n 2, 1) := by decide +kernel
theorem dX12_melt_37 : decode cX12_melt 37 = .ok (.aload_n 0, 1) := by decide +kernel
theorem dX12_melt_38 : decode cX12_melt 38 = .ok (.iload_n 3, 1) := by decide +kernel
theorem dX12_melt_39 : decode cX12_melt 39 = .ok (.aload_n 0, 1) := by decide +kernel
theorem dX12_melt_40 : decode cX12_melt 40 = .ok (.iload_n 3, 1) := by decide +kernel
theorem dX12_melt_41 : decode cX12_melt 41 = .ok (.iconst 3, 1) := by decide +kernel
theorem dX12_melt_42 : decode cX12_melt 42 = .ok (.invokevirtual 131, 3) := by decide +kernel
theorem dX12_melt_45 : decode cX12_melt 45 = .ok (.iload_n 1, 1) := by decide +kernel
theorem dX12_melt_46 : decode cX12_melt 46 = .ok (.isub, 1) := by decide +kernel
theorem dX12_melt_47 : decode cX12_melt 47 = .ok (.invokevirtual 415, 3) := by decide +kernel
theorem dX12_melt_50 : decode cX12_melt 50 = .ok (.isub, 1) := by decide +kernel
theorem dX12_melt_51 : decode cX12_melt 51 = .ok (.istore_n 2, 1) := by decide +kernel
theorem dX12_melt_52 : decode cX12_melt 52 = .ok (.iinc 3 1, 3) := by decide +kernel
theorem dX12_melt_55 : decode cX12_melt 55 = .ok (.goto (-27), 3) := by decide +kernel
theorem dX12_melt_58 : decode cX12_melt 58 = .ok (.iload_n 2, 1) := by decide +kernel
theorem dX12_melt_59 : decode cX12_melt 59 = .ok (.ireturn, 1) := by decide +kernel
set_option maxRecDepth 100000 in
def F_X12_melt_l28 (v0 : Nat) (v1 : Int32) (v2 : Int32) (v3 : Int32) (h : Hp) : Option ((Int32 × Int32 × Hp) ⊕ (Int32 × Hp)) :=
  ob (F_X12_rooms v0 h) fun r7 => gd (decide (kd h v0 = 11)) <| (if r7 ≤ v3 then some (.inr (v2, h)) else ob (F_X12_ofRoom v0 v3 (3 : Int32) h) fun r10 => ob2 (F_X12_snows v0 v3 (r10 - v1) h) fun r12 h13 => some (.inl (v2 - r12, v3 + (1 : Int32), h13)))
set_option maxHeartbeats 4000000 in
set_option maxRecDepth 100000 in
theorem r_X12_melt_l28 (v0 : Nat) (v1 : Int32) (v2 : Int32) (v3 : Int32) (h : Hp) {x : Cx} {o : ((Int32 × Int32 × Hp) ⊕ (Int32 × Hp))} (e : F_X12_melt_l28 v0 v1 v2 v3 h = some o) (kI : ∀ z, o = .inl z → V M_X12_melt x 2 28 [(0, .ref v0), (1, .int v1), (2, .int z.1), (3, .int z.2.1)] [] z.2.2 0 0) (kE58 : ∀ z : Int32 × Hp, o = .inr z → V M_X12_melt x 2 58 [(2, .int z.1)] [] z.2 0 0) : V M_X12_melt x 2 28 [(0, .ref v0), (1, .int v1), (2, .int v2), (3, .int v3)] [] h 0 0 := by
  unfold F_X12_melt_l28 at e
  refine V_iload_n (pc := 28) (i := 3) dX12_melt_28 rfl rfl ?_
  refine V_aload_n (pc := 29) (i := 0) dX12_melt_29 rfl rfl ?_
  obtain ⟨r7, g6, e⟩ := ob_some e
  obtain ⟨g8, e⟩ := gd_some e
  refine V_callV (pc := 30) (bc := 0) (bs := 0) (mc := 0) (ms := 0) (st := [.int v3]) (As := []) (a := v0) (h' := h) (r := some (.int r7)) dX12_melt_30 ml_X12_60 (ci := 11) rfl (of_decide_eq_true g8) rfl rfl (Nat.le_of_ble_eq_true rfl) (d' := 0) (by decide) (c_X12_rooms (l := x.2.1) v0 h g6) ?_
  refine V_icmp_ge (pc := 33) (tgt := 58) dX12_melt_33 (by decide) (fun c14 => ?_) (fun c14 => ?_)
  · rw [if_pos c14] at e
    cases e
    exact V_pick [2] rfl (kE58 (v2, h) rfl)
  · rw [if_neg c14] at e
    refine V_pick [0, 1, 2, 3] rfl ?_
    refine V_iload_n (pc := 36) (i := 2) dX12_melt_36 rfl rfl ?_
    refine V_aload_n (pc := 37) (i := 0) dX12_melt_37 rfl rfl ?_
    refine V_iload_n (pc := 38) (i := 3) dX12_melt_38 rfl rfl ?_
    refine V_aload_n (pc := 39) (i := 0) dX12_melt_39 rfl rfl ?_
    refine V_iload_n (pc := 40) (i := 3) dX12_melt_40 rfl rfl ?_
    refine V_iconst (pc := 41) (v := (3 : Int32)) dX12_melt_41 (by decide) ?_
    obtain ⟨r10, g9, e⟩ := ob_some e
    refine V_callV (pc := 42) (bc := 0) (bs := 0) (mc := 0) (ms := 0) (st := [.int v3, .ref v0, .int v2]) (As := [.int v3, .int (3 : Int32)]) (a := v0) (h' := h) (r := some (.int r10)) dX12_melt_42 ml_X12_131 (ci := 11) rfl (of_decide_eq_true g8) rfl rfl (Nat.le_of_ble_eq_true rfl) (d' := 0) (by decide) (c_X12_ofRoom (l := x.2.1) v0 v3 (3 : Int32) h g9) ?_
    refine V_iload_n (pc := 45) (i := 1) dX12_melt_45 rfl rfl ?_
    refine V_isub (pc := 46) dX12_melt_46 ?_
    obtain ⟨r12, h13, g11, e⟩ := ob2_some e
    refine V_callV (pc := 47) (bc := 0) (bs := 0) (mc := 0) (ms := 0) (st := [.int v2]) (As := [.int v3, .int (r10 - v1)]) (a := v0) (h' := h13) (r := some (.int r12)) dX12_melt_47 ml_X12_415 (ci := 11) rfl (of_decide_eq_true g8) rfl rfl (Nat.le_of_ble_eq_true rfl) (d' := 1) (by decide) (c_X12_snows (l := x.2.1) v0 v3 (r10 - v1) h g11) ?_
    refine V_isub (pc := 50) dX12_melt_50 ?_
    refine V_istore_n (pc := 51) (i := 2) (lv' := [(2, .int (v2 - r12)), (0, .ref v0), (1, .int v1), (3, .int v3)]) dX12_melt_51 rfl (by decide) rfl ?_
    refine V_iinc (pc := 52) (i := 3) (u := v3 + (1 : Int32)) (lv' := [(3, .int (v3 + (1 : Int32))), (2, .int (v2 - r12)), (0, .ref v0), (1, .int v1)]) dX12_melt_52 rfl rfl (by decide) rfl ?_
    refine V_goto (pc := 55) (tgt := 28) dX12_melt_55 (by decide) ?_
    cases e
    exact V_pick [2, 3, 1, 0] rfl (kI (v2 - r12, v3 + (1 : Int32), h13) rfl)
set_option maxRecDepth 100000 in
def F_X12_melt_b15 (v0 : Nat) (v1 : Int32) (t0 : Nat) (t1 : Int32) (h : Hp) : Option (Int32 × Hp) :=
  ob2 (F_X12_throwsIf t0 t1 (1 : Int32) h) fun r3 h4 => gd (decide (kd h t0 = 11)) <| (if r3 = 0 then ob (iter (fun z : Int32 × Int32 × Hp => F_X12_melt_l28 v0 v1 z.1 z.2.1 z.2.2) FU ((0 : Int32), (0 : Int32), h4)) (fun z => un2 z fun w15 h16 => some (w15, h16)) else some ((0 : Int32), h4))
set_option maxHeartbeats 4000000 in
set_option maxRecDepth 100000 in
theorem r_X12_melt_b15 (v0 : Nat) (v1 : Int32) (t0 : Nat) (t1 : Int32) (h : Hp) {x : Cx} {r : Int32} {hz : Hp} (e : F_X12_melt_b15 v0 v1 t0 t1 h = some (r, hz)) (hF : Fin9 M_X12_melt x (some .int) (some (.int r)) hz) : V M_X12_melt x 2 15 [(0, .ref v0), (1, .int v1)] [.int t1, .ref t0] h 0 0 := by
  unfold F_X12_melt_b15 at e
  refine V_iconst (pc := 15) (v := (1 : Int32)) dX12_melt_15 (by decide) ?_
  obtain ⟨r3, h4, g2, e⟩ := ob2_some e
  obtain ⟨g5, e⟩ := gd_some e
  refine V_callV (pc := 16) (bc := 0) (bs := 0) (mc := 0) (ms := 0) (st := []) (As := [.int t1, .int (1 : Int32)]) (a := t0) (h' := h4) (r := some (.int r3)) dX12_melt_16 ml_X12_240 (ci := 11) rfl (of_decide_eq_true g5) rfl rfl (Nat.le_of_ble_eq_true rfl) (d' := 0) (by decide) (c_X12_throwsIf (l := x.2.1) t0 t1 (1 : Int32) h g2) ?_
  refine V_if_eq (pc := 19) (tgt := 24) dX12_melt_19 (by decide) (fun c19 => ?_) (fun c19 => ?_)
  · rw [if_pos c19] at e
    refine V_pick [0, 1] rfl ?_
    refine V_iconst (pc := 24) (v := (0 : Int32)) dX12_melt_24 (by decide) ?_
    refine V_istore_n (pc := 25) (i := 2) (lv' := [(2, .int (0 : Int32)), (0, .ref v0), (1, .int v1)]) dX12_melt_25 rfl (by decide) rfl ?_
    refine V_iconst (pc := 26) (v := (0 : Int32)) dX12_melt_26 (by decide) ?_
    refine V_istore_n (pc := 27) (i := 3) (lv' := [(3, .int (0 : Int32)), (2, .int (0 : Int32)), (0, .ref v0), (1, .int v1)]) dX12_melt_27 rfl (by decide) rfl ?_
    refine V_pick [2, 3, 1, 0] rfl ?_
    obtain ⟨y17, g18, e⟩ := ob_some e
    refine iter_V (P := fun z : Int32 × Int32 × Hp => V M_X12_melt x 2 28 [(0, .ref v0), (1, .int v1), (2, .int z.1), (3, .int z.2.1)] [] z.2.2 0 0) (E := fun z : Int32 × Hp => V M_X12_melt x 2 58 [(2, .int z.1)] [] z.2 0 0) (fun z o e9 k1 k2 => r_X12_melt_l28 v0 v1 z.1 z.2.1 z.2.2 e9 (fun z hz9 => k1 z hz9) (fun z hz9 => k2 _ hz9)) _ _ _ g18 ?_
    clear g18
    obtain ⟨w15, h16⟩ := y17
    replace e : (some (w15, h16)) = some (r, hz) := e
    show V M_X12_melt x 2 58 [(2, .int w15)] [] h16 0 0
    refine V_iload_n (pc := 58) (i := 2) dX12_melt_58 rfl rfl ?_
    cases e
    exact V_iret (pc := 59) dX12_melt_59 hF
  · rw [if_neg c19] at e
    refine V_pick [] rfl ?_
    refine V_iconst (pc := 22) (v := (0 : Int32)) dX12_melt_22 (by decide) ?_
    cases e
    exact V_iret (pc := 23) dX12_melt_23 hF
set_option maxRecDepth 100000 in
def F_X12_melt_b0 (v0 : Nat) (v1 : Int32) (h : Hp) : Option (Int32 × Hp) :=
  gd (decide (kd h v0 = 11)) <| (if 0 ≤ v1 then F_X12_melt_b15 v0 v1 v0 (0 : Int32) (setI h v0 0 (0 : Int32)) else F_X12_melt_b15 v0 v1 v0 (1 : Int32) (setI h v0 0 (0 : Int32)))
set_option maxHeartbeats 4000000 in
set_option maxRecDepth 100000 in
theorem r_X12_melt_b0 (v0 : Nat) (v1 : Int32) (h : Hp) {x : Cx} {r : Int32} {hz : Hp} (e : F_X12_melt_b0 v0 v1 h = some (r, hz)) (hF : Fin9 M_X12_melt x (some .int) (some (.int r)) hz) : V M_X12_melt x 2 0 [(0, .ref v0), (1, .int v1)] [] h 0 0 := by
  unfold F_X12_melt_b0 at e
  refine V_aload_n (pc := 0) (i := 0) dX12_melt_0 rfl rfl ?_
  refine V_iconst (pc := 1) (v := (0 : Int32)) dX12_melt_1 (by decide) ?_
  obtain ⟨g1, e⟩ := gd_some e
  refine V_putI (pc := 2) (ci := 11) (k := 0) dX12_melt_2 fp_X12_3 rfl (of_decide_eq_true g1) ?_
  refine V_aload_n (pc := 5) (i := 0) dX12_melt_5 rfl rfl ?_
  refine V_iload_n (pc := 6) (i := 1) dX12_melt_6 rfl rfl ?_
  refine V_if_ge (pc := 7) (tgt := 14) dX12_melt_7 (by decide) (fun c20 => ?_) (fun c20 => ?_)
  · rw [if_pos c20] at e
    refine V_pick [0, 1] rfl ?_
    refine V_iconst (pc := 14) (v := (0 : Int32)) dX12_melt_14 (by decide) ?_
    exact V_pick [0, 1] rfl (r_X12_melt_b15 v0 v1 v0 (0 : Int32) (setI h v0 0 (0 : Int32)) e hF)
  · rw [if_neg c20] at e
    refine V_pick [0, 1] rfl ?_
    refine V_iconst (pc := 10) (v := (1 : Int32)) dX12_melt_10 (by decide) ?_
    refine V_goto (pc := 11) (tgt := 15) dX12_melt_11 (by decide) ?_
    exact V_pick [0, 1] rfl (r_X12_melt_b15 v0 v1 v0 (1 : Int32) (setI h v0 0 (0 : Int32)) e hF)
def F_X12_melt (v0 : Nat) (v1 : Int32) (h : Hp) : Option (Int32 × Hp) := F_X12_melt_b0 v0 v1 h
theorem c_X12_melt {l : Launch} (v0 : Nat) (v1 : Int32) (h : Hp) {r : Int32} {hz : Hp} (e : F_X12_melt v0 v1 h = some (r, hz)) : Ct l yX12_melt M_X12_melt (some .int) 2 [.ref v0, .int v1] h 0 0 (some (.int r)) hz :=
  Ct_of rfl rfl (fun q => by cases q) (Nat.le_of_ble_eq_true rfl) (fun x _ hF => V_pick [0, 1] rfl (r_X12_melt_b0 v0 v1 h e hF))

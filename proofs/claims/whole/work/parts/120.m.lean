theorem dX10_readAtom_0 : decode cX10_readAtom 0 = .ok (.aload_n 1, 1) := by decide +kernel
theorem dX10_readAtom_1 : decode cX10_readAtom 1 = .ok (.ldc 63, 2) := by decide +kernel
theorem dX10_readAtom_3 : decode cX10_readAtom 3 = .ok (.invokevirtual 52, 3) := by decide +kernel
theorem dX10_readAtom_6 : decode cX10_readAtom 6 = .ok (.ifCond .ne 12, 3) := by decide +kernel
theorem dX10_readAtom_9 : decode cX10_readAtom 9 = .ok (.aload_n 1, 1) := by decide +kernel
theorem dX10_readAtom_10 : decode cX10_readAtom 10 = .ok (.bipush 40, 2) := by decide +kernel
theorem dX10_readAtom_12 : decode cX10_readAtom 12 = .ok (.invokevirtual 65, 3) := by decide +kernel
theorem dX10_readAtom_15 : decode cX10_readAtom 15 = .ok (.ifCond .eq 25, 3) := by decide +kernel
theorem dX10_readAtom_18 : decode cX10_readAtom 18 = .ok (.iload_n 2, 1) := by decide +kernel
theorem dX10_readAtom_19 : decode cX10_readAtom 19 = .ok (.bipush 6, 2) := by decide +kernel
theorem dX10_readAtom_21 : decode cX10_readAtom 21 = .ok (.if_icmp .ge 14, 3) := by decide +kernel
theorem dX10_readAtom_24 : decode cX10_readAtom 24 = .ok (.aload_n 0, 1) := by decide +kernel
theorem dX10_readAtom_25 : decode cX10_readAtom 25 = .ok (.aload_n 1, 1) := by decide +kernel
theorem dX10_readAtom_26 : decode cX10_readAtom 26 = .ok (.iload_n 2, 1) := by decide +kernel
theorem dX10_readAtom_27 : decode cX10_readAtom 27 = .ok (.iconst 1, 1) := by decide +kernel
theorem dX10_readAtom_28 : decode cX10_readAtom 28 = .ok (.iadd, 1) := by decide +kernel
theorem dX10_readAtom_29 : decode cX10_readAtom 29 = .ok (.invokevirtual 69, 3) := by decide +kernel
theorem dX10_readAtom_32 : decode cX10_readAtom 32 = .ok (.goto 7, 3) := by decide +kernel
theorem dX10_readAtom_35 : decode cX10_readAtom 35 = .ok (.aload_n 1, 1) := by decide +kernel
theorem dX10_readAtom_36 : decode cX10_readAtom 36 = .ok (.invokevirtual 72, 3) := by decide +kernel
theorem dX10_readAtom_39 : decode cX10_readAtom 39 = .ok (.ireturn, 1) := by decide +kernel
theorem dX10_readAtom_40 : decode cX10_readAtom 40 = .ok (.aload_n 1, 1) := by decide +kernel
theorem dX10_readAtom_41 : decode cX10_readAtom 41 = .ok (.ldc 76, 2) := by decide +kernel
theorem dX10_readAtom_43 : decode cX10_readAtom 43 = .ok (.invokevirtual 52, 3) := by decide +kernel
theorem dX10_readAtom_46 : decode cX10_readAtom 46 = .ok (.ifCond .eq 14, 3) := by decide +kernel
theorem dX10_readAtom_49 : decode cX10_readAtom 49 = .ok (.aload_n 1, 1) := by decide +kernel
theorem dX10_readAtom_50 : decode cX10_readAtom 50 = .ok (.invokevirtual 55, 3) := by decide +kernel
theorem dX10_readAtom_53 : decode cX10_readAtom 53 = .ok (.aload_n 0, 1) := by decide +kernel
theorem dX10_readAtom_54 : decode cX10_readAtom 54 = .ok (.bipush (-8), 2) := by decide +kernel
theorem dX10_readAtom_56 : decode cX10_readAtom 56 = .ok (.invokevirtual 43, 3) := by decide +kernel
theorem dX10_readAtom_59 : decode cX10_readAtom 59 = .ok (.ireturn, 1) := by decide +kernel
theorem dX10_readAtom_60 : decode cX10_readAtom 60 = .ok (.aload_n 1, 1) := by decide +kernel
theorem dX10_readAtom_61 : decode cX10_readAtom 61 = .ok (.ldc 78, 2) := by decide +kernel
theorem dX10_readAtom_63 : decode cX10_readAtom 63 = .ok (.invokevirtual 52, 3) := by decide +kernel
theorem dX10_readAtom_66 : decode cX10_readAtom 66 = .ok (.ifCond .eq 14, 3) := by decide +kernel
theorem dX10_readAtom_69 : decode cX10_readAtom 69 = .ok (.aload_n 1, 1) := by decide +kernel
theorem dX10_readAtom_70 : decode cX10_readAtom 70 = .ok (.invokevirtual 55, 3) := by decide +kernel
theorem dX10_readAtom_73 : decode cX10_readAtom 73 = .ok (.aload_n 0, 1) := by decide +kernel
theorem dX10_readAtom_74 : decode cX10_readAtom 74 = .ok (.bipush (-9), 2) := by decide +kernel
theorem dX10_readAtom_76 : decode cX10_readAtom 76 = .ok (.invokevirtual 43, 3) := by decide +kernel
theorem dX10_readAtom_79 : decode cX10_readAtom 79 = .ok (.ireturn, 1) := by decide +kernel
theorem dX10_readAtom_80 : decode cX10_readAtom 80 = .ok (.aload_n 1, 1) := by decide +kernel
theorem dX10_readAtom_81 : decode cX10_readAtom 81 = .ok (.ldc 80, 2) := by decide +kernel
theorem dX10_readAtom_83 : decode cX10_readAtom 83 = .ok (.invokevirtual 52, 3) := by decide +kernel
theorem dX10_readAtom_86 : decode cX10_readAtom 86 = .ok (.ifCond .eq 36, 3) := by decide +kernel
theorem dX10_readAtom_89 : decode cX10_readAtom 89 = .ok (.aload_n 1, 1) := by decide +kernel
theorem dX10_readAtom_90 : decode cX10_readAtom 90 = .ok (.invokevirtual 55, 3) := by decide +kernel
theorem dX10_readAtom_93 : decode cX10_readAtom 93 = .ok (.aload_n 1, 1) := by decide +kernel
theorem dX10_readAtom_94 : decode cX10_readAtom 94 = .ok (.iconst 0, 1) := by decide +kernel
theorem dX10_readAtom_95 : decode cX10_readAtom 95 = .ok (.iconst 4, 1) := by decide +kernel
theorem dX10_readAtom_96 : decode cX10_readAtom 96 = .ok (.invokevirtual 82, 3) := by decide +kernel
theorem dX10_readAtom_99 : decode cX10_readAtom 99 = .ok (.ifCond .eq 21, 3) := by decide +kernel
theorem dX10_readAtom_102 : decode cX10_readAtom 102 = .ok (.aload_n 0, 1) := by decide +kernel
theorem dX10_readAtom_103 : decode cX10_readAtom 103 = .ok (.bipush (-16), 2) := by decide +kernel
theorem dX10_readAtom_105 : decode cX10_readAtom 105 = .ok (.aload_n 1, 1) := by decide +kernel
theorem dX10_readAtom_106 : decode cX10_readAtom 106 = .ok (.getfield 86, 3) := by decide +kernel
theorem dX10_readAtom_109 : decode cX10_readAtom 109 = .ok (.isub, 1) := by decide +kernel
theorem dX10_readAtom_110 : decode cX10_readAtom 110 = .ok (.invokevirtual 43, 3) := by decide +kernel
theorem dX10_readAtom_113 : decode cX10_readAtom 113 = .ok (.ifCond .eq 7, 3) := by decide +kernel
theorem dX10_readAtom_116 : decode cX10_readAtom 116 = .ok (.iconst 1, 1) := by decide +kernel
theorem dX10_readAtom_117 : decode cX10_readAtom 117 = .ok (.goto 4, 3) := by decide +kernel
theorem dX10_readAtom_120 : decode cX10_readAtom 120 = .ok (.iconst 0, 1) := by decide +kernel
theorem dX10_readAtom_121 : decode cX10_readAtom 121 = .ok (.ireturn, 1) := by decide +kernel
theorem dX10_readAtom_122 : decode cX10_readAtom 122 = .ok (.aload_n 0, 1) := by decide +kernel
theorem dX10_readAtom_123 : decode cX10_readAtom 123 = .ok (.aload_n 1, 1) := by decide +kernel
theorem dX10_readAtom_124 : decode cX10_readAtom 124 = .ok (.invokevirtual 89, 3) := by decide +kernel
theorem dX10_readAtom_127 : decode cX10_readAtom 127 = .ok (.ireturn, 1) := by decide +kernel
set_option maxRecDepth 100000 in
def F_X10_readAtom_b39 (rc : Nat → Nat → Nat → Int32 → Hp → Option (Int32 × Hp)) (t0 : Int32) (h : Hp) : Option (Int32 × Hp) :=
  gd (decide (t0 = 0 ∨ t0 = 1)) <| some (t0, h)
set_option maxHeartbeats 4000000 in
set_option maxRecDepth 100000 in
theorem r_X10_readAtom_b39 (rc : Nat → Nat → Nat → Int32 → Hp → Option (Int32 × Hp)) (t0 : Int32) (h : Hp) {x : Cx} {r : Int32} {hz : Hp} (e : F_X10_readAtom_b39 rc t0 h = some (r, hz)) {D9 : Nat} (hD9 : 20 ≤ D9) (hrc0 : ∀ (a0 : Nat) (a1 : Nat) (a2 : Int32) (h9 : Hp) (r9 : Int32) (z9 : Hp), rc 0 a0 a1 a2 h9 = some (r9, z9) → Ct x.2.1 yX10_readAny M_X10_readAny (some .boolean) D9 [.ref a0, .ref a1, .int a2] h9 0 0 (some (.int r9)) z9) (hrc1 : ∀ (a0 : Nat) (a1 : Nat) (a2 : Int32) (h9 : Hp) (r9 : Int32) (z9 : Hp), rc 1 a0 a1 a2 h9 = some (r9, z9) → Ct x.2.1 yX10_readEach M_X10_readEach (some .boolean) D9 [.ref a0, .ref a1, .int a2] h9 0 0 (some (.int r9)) z9) (hrc2 : ∀ (a0 : Nat) (a1 : Nat) (a2 : Int32) (h9 : Hp) (r9 : Int32) (z9 : Hp), rc 2 a0 a1 a2 h9 = some (r9, z9) → Ct x.2.1 yX10_readAtom M_X10_readAtom (some .boolean) D9 [.ref a0, .ref a1, .int a2] h9 0 0 (some (.int r9)) z9) (hrc3 : ∀ (a0 : Nat) (a1 : Nat) (a2 : Int32) (h9 : Hp) (r9 : Int32) (z9 : Hp), rc 3 a0 a1 a2 h9 = some (r9, z9) → Ct x.2.1 yX10_readDeeper M_X10_readDeeper (some .boolean) D9 [.ref a0, .ref a1, .int a2] h9 0 0 (some (.int r9)) z9) (hF : Fin9 M_X10_readAtom x (some .boolean) (some (.int r)) hz) : V M_X10_readAtom x (D9 + 1) 39 [] [.int t0] h 0 0 := by
  unfold F_X10_readAtom_b39 at e
  obtain ⟨g8, e⟩ := gd_some e
  cases e
  exact V_zret (pc := 39) dX10_readAtom_39 (z01 (of_decide_eq_true g8)) hF
set_option maxRecDepth 100000 in
def F_X10_readAtom_b18 (rc : Nat → Nat → Nat → Int32 → Hp → Option (Int32 × Hp)) (v0 : Nat) (v1 : Nat) (v2 : Int32) (h : Hp) : Option (Int32 × Hp) :=
  (if (6 : Int32) ≤ v2 then ob2 (F_X6_refuse v1 h) fun r5 h6 => gd (decide (kd h v1 = 6)) <| F_X10_readAtom_b39 rc r5 h6 else ob2 (rc 3 v0 v1 (v2 + (1 : Int32)) h) fun r10 h11 => gd (decide (kd h v0 = 9)) <| F_X10_readAtom_b39 rc r10 h11)
set_option maxHeartbeats 4000000 in
set_option maxRecDepth 100000 in
theorem r_X10_readAtom_b18 (rc : Nat → Nat → Nat → Int32 → Hp → Option (Int32 × Hp)) (v0 : Nat) (v1 : Nat) (v2 : Int32) (h : Hp) {x : Cx} {r : Int32} {hz : Hp} (e : F_X10_readAtom_b18 rc v0 v1 v2 h = some (r, hz)) {D9 : Nat} (hD9 : 20 ≤ D9) (hrc0 : ∀ (a0 : Nat) (a1 : Nat) (a2 : Int32) (h9 : Hp) (r9 : Int32) (z9 : Hp), rc 0 a0 a1 a2 h9 = some (r9, z9) → Ct x.2.1 yX10_readAny M_X10_readAny (some .boolean) D9 [.ref a0, .ref a1, .int a2] h9 0 0 (some (.int r9)) z9) (hrc1 : ∀ (a0 : Nat) (a1 : Nat) (a2 : Int32) (h9 : Hp) (r9 : Int32) (z9 : Hp), rc 1 a0 a1 a2 h9 = some (r9, z9) → Ct x.2.1 yX10_readEach M_X10_readEach (some .boolean) D9 [.ref a0, .ref a1, .int a2] h9 0 0 (some (.int r9)) z9) (hrc2 : ∀ (a0 : Nat) (a1 : Nat) (a2 : Int32) (h9 : Hp) (r9 : Int32) (z9 : Hp), rc 2 a0 a1 a2 h9 = some (r9, z9) → Ct x.2.1 yX10_readAtom M_X10_readAtom (some .boolean) D9 [.ref a0, .ref a1, .int a2] h9 0 0 (some (.int r9)) z9) (hrc3 : ∀ (a0 : Nat) (a1 : Nat) (a2 : Int32) (h9 : Hp) (r9 : Int32) (z9 : Hp), rc 3 a0 a1 a2 h9 = some (r9, z9) → Ct x.2.1 yX10_readDeeper M_X10_readDeeper (some .boolean) D9 [.ref a0, .ref a1, .int a2] h9 0 0 (some (.int r9)) z9) (hF : Fin9 M_X10_readAtom x (some .boolean) (some (.int r)) hz) : V M_X10_readAtom x (D9 + 1) 18 [(0, .ref v0), (1, .ref v1), (2, .int v2)] [] h 0 0 := by
  unfold F_X10_readAtom_b18 at e
  refine V_iload_n (pc := 18) (i := 2) dX10_readAtom_18 rfl rfl ?_
  refine V_bipush (pc := 19) (v := (6 : Int32)) dX10_readAtom_19 (by decide) ?_
  refine V_icmp_ge (pc := 21) (tgt := 35) dX10_readAtom_21 (by decide) (fun c13 => ?_) (fun c13 => ?_)
  · rw [if_pos c13] at e
    refine V_pick [1] rfl ?_
    refine V_aload_n (pc := 35) (i := 1) dX10_readAtom_35 rfl rfl ?_
    obtain ⟨r5, h6, g4, e⟩ := ob2_some e
    obtain ⟨g7, e⟩ := gd_some e
    refine V_callV (pc := 36) (bc := 0) (bs := 0) (mc := 0) (ms := 0) (st := []) (As := []) (a := v1) (h' := h6) (r := some (.int r5)) dX10_readAtom_36 ml_X10_72 (ci := 6) rfl (of_decide_eq_true g7) rfl rfl (Nat.le_of_ble_eq_true rfl) (d' := 0) (by omega) (c_X6_refuse (l := x.2.1) v1 h g4) ?_
    exact V_pick [] rfl (r_X10_readAtom_b39 rc r5 h6 e hD9 hrc0 hrc1 hrc2 hrc3 hF)
  · rw [if_neg c13] at e
    refine V_pick [0, 1, 2] rfl ?_
    refine V_aload_n (pc := 24) (i := 0) dX10_readAtom_24 rfl rfl ?_
    refine V_aload_n (pc := 25) (i := 1) dX10_readAtom_25 rfl rfl ?_
    refine V_iload_n (pc := 26) (i := 2) dX10_readAtom_26 rfl rfl ?_
    refine V_iconst (pc := 27) (v := (1 : Int32)) dX10_readAtom_27 (by decide) ?_
    refine V_iadd (pc := 28) dX10_readAtom_28 ?_
    obtain ⟨r10, h11, g9, e⟩ := ob2_some e
    obtain ⟨g12, e⟩ := gd_some e
    refine V_callV (pc := 29) (bc := 0) (bs := 0) (mc := 0) (ms := 0) (st := []) (As := [.ref v1, .int (v2 + (1 : Int32))]) (a := v0) (h' := h11) (r := some (.int r10)) dX10_readAtom_29 ml_X10_69 (ci := 9) rfl (of_decide_eq_true g12) rfl rfl (Nat.le_of_ble_eq_true rfl) (d' := D9) (by omega) (hrc3 v0 v1 (v2 + (1 : Int32)) h _ _ g9) ?_
    refine V_goto (pc := 32) (tgt := 39) dX10_readAtom_32 (by decide) ?_
    exact V_pick [] rfl (r_X10_readAtom_b39 rc r10 h11 e hD9 hrc0 hrc1 hrc2 hrc3 hF)
set_option maxRecDepth 100000 in
def F_X10_readAtom_b121 (rc : Nat → Nat → Nat → Int32 → Hp → Option (Int32 × Hp)) (t0 : Int32) (h : Hp) : Option (Int32 × Hp) :=
  gd (decide (t0 = 0 ∨ t0 = 1)) <| some (t0, h)
set_option maxHeartbeats 4000000 in
set_option maxRecDepth 100000 in
theorem r_X10_readAtom_b121 (rc : Nat → Nat → Nat → Int32 → Hp → Option (Int32 × Hp)) (t0 : Int32) (h : Hp) {x : Cx} {r : Int32} {hz : Hp} (e : F_X10_readAtom_b121 rc t0 h = some (r, hz)) {D9 : Nat} (hD9 : 20 ≤ D9) (hrc0 : ∀ (a0 : Nat) (a1 : Nat) (a2 : Int32) (h9 : Hp) (r9 : Int32) (z9 : Hp), rc 0 a0 a1 a2 h9 = some (r9, z9) → Ct x.2.1 yX10_readAny M_X10_readAny (some .boolean) D9 [.ref a0, .ref a1, .int a2] h9 0 0 (some (.int r9)) z9) (hrc1 : ∀ (a0 : Nat) (a1 : Nat) (a2 : Int32) (h9 : Hp) (r9 : Int32) (z9 : Hp), rc 1 a0 a1 a2 h9 = some (r9, z9) → Ct x.2.1 yX10_readEach M_X10_readEach (some .boolean) D9 [.ref a0, .ref a1, .int a2] h9 0 0 (some (.int r9)) z9) (hrc2 : ∀ (a0 : Nat) (a1 : Nat) (a2 : Int32) (h9 : Hp) (r9 : Int32) (z9 : Hp), rc 2 a0 a1 a2 h9 = some (r9, z9) → Ct x.2.1 yX10_readAtom M_X10_readAtom (some .boolean) D9 [.ref a0, .ref a1, .int a2] h9 0 0 (some (.int r9)) z9) (hrc3 : ∀ (a0 : Nat) (a1 : Nat) (a2 : Int32) (h9 : Hp) (r9 : Int32) (z9 : Hp), rc 3 a0 a1 a2 h9 = some (r9, z9) → Ct x.2.1 yX10_readDeeper M_X10_readDeeper (some .boolean) D9 [.ref a0, .ref a1, .int a2] h9 0 0 (some (.int r9)) z9) (hF : Fin9 M_X10_readAtom x (some .boolean) (some (.int r)) hz) : V M_X10_readAtom x (D9 + 1) 121 [] [.int t0] h 0 0 := by
  unfold F_X10_readAtom_b121 at e
  obtain ⟨g34, e⟩ := gd_some e
  cases e
  exact V_zret (pc := 121) dX10_readAtom_121 (z01 (of_decide_eq_true g34)) hF
set_option maxRecDepth 100000 in
def F_X10_readAtom_b120 (rc : Nat → Nat → Nat → Int32 → Hp → Option (Int32 × Hp))  (h : Hp) : Option (Int32 × Hp) :=
  F_X10_readAtom_b121 rc (0 : Int32) h
set_option maxHeartbeats 4000000 in
set_option maxRecDepth 100000 in
theorem r_X10_readAtom_b120 (rc : Nat → Nat → Nat → Int32 → Hp → Option (Int32 × Hp))  (h : Hp) {x : Cx} {r : Int32} {hz : Hp} (e : F_X10_readAtom_b120 rc  h = some (r, hz)) {D9 : Nat} (hD9 : 20 ≤ D9) (hrc0 : ∀ (a0 : Nat) (a1 : Nat) (a2 : Int32) (h9 : Hp) (r9 : Int32) (z9 : Hp), rc 0 a0 a1 a2 h9 = some (r9, z9) → Ct x.2.1 yX10_readAny M_X10_readAny (some .boolean) D9 [.ref a0, .ref a1, .int a2] h9 0 0 (some (.int r9)) z9) (hrc1 : ∀ (a0 : Nat) (a1 : Nat) (a2 : Int32) (h9 : Hp) (r9 : Int32) (z9 : Hp), rc 1 a0 a1 a2 h9 = some (r9, z9) → Ct x.2.1 yX10_readEach M_X10_readEach (some .boolean) D9 [.ref a0, .ref a1, .int a2] h9 0 0 (some (.int r9)) z9) (hrc2 : ∀ (a0 : Nat) (a1 : Nat) (a2 : Int32) (h9 : Hp) (r9 : Int32) (z9 : Hp), rc 2 a0 a1 a2 h9 = some (r9, z9) → Ct x.2.1 yX10_readAtom M_X10_readAtom (some .boolean) D9 [.ref a0, .ref a1, .int a2] h9 0 0 (some (.int r9)) z9) (hrc3 : ∀ (a0 : Nat) (a1 : Nat) (a2 : Int32) (h9 : Hp) (r9 : Int32) (z9 : Hp), rc 3 a0 a1 a2 h9 = some (r9, z9) → Ct x.2.1 yX10_readDeeper M_X10_readDeeper (some .boolean) D9 [.ref a0, .ref a1, .int a2] h9 0 0 (some (.int r9)) z9) (hF : Fin9 M_X10_readAtom x (some .boolean) (some (.int r)) hz) : V M_X10_readAtom x (D9 + 1) 120 [] [] h 0 0 := by
  unfold F_X10_readAtom_b120 at e
  refine V_iconst (pc := 120) (v := (0 : Int32)) dX10_readAtom_120 (by decide) ?_
  exact V_pick [] rfl (r_X10_readAtom_b121 rc (0 : Int32) h e hD9 hrc0 hrc1 hrc2 hrc3 hF)
set_option maxRecDepth 100000 in
def F_X10_readAtom_b0 (rc : Nat → Nat → Nat → Int32 → Hp → Option (Int32 × Hp)) (v0 : Nat) (v1 : Nat) (v2 : Int32) (h : Hp) : Option (Int32 × Hp) :=
  ob (F_X6_isWord v1 (14 : UInt32) h) fun r2 => gd (decide (kd h v1 = 6)) <| (if r2 = 0 then ob (F_X6_isSign v1 (40 : Int32) h) fun r15 => (if r15 = 0 then ob (F_X6_isWord v1 (15 : UInt32) h) fun r17 => (if r17 = 0 then ob (F_X6_isWord v1 (16 : UInt32) h) fun r19 => (if r19 = 0 then ob (F_X6_isWord v1 (17 : UInt32) h) fun r21 => (if r21 = 0 then ob2 (F_X10_readComparison v0 v1 h) fun r23 h24 => gd (decide (kd h v0 = 9)) <| gd (decide (r23 = 0 ∨ r23 = 1)) <| some (r23, h24) else ob2 (F_X6_lookAtNext v1 h) fun _ h29 => ob2 (F_X6_takeNumber v1 (0 : Int32) (4 : Int32) h29) fun r31 h32 => gd (decide (kd h29 v1 = 6)) <| (if r31 = 0 then F_X10_readAtom_b120 rc h32 else gd (decide (kd h32 v1 = 6)) <| ob2 (F_X10_put v0 ((-16 : Int32) - (zI h32 v1 5)) h32) fun r37 h38 => gd (decide (kd h32 v0 = 9)) <| (if r37 = 0 then F_X10_readAtom_b120 rc h38 else F_X10_readAtom_b121 rc (1 : Int32) h38))) else ob2 (F_X6_lookAtNext v1 h) fun _ h45 => ob2 (F_X10_put v0 (-9 : Int32) h45) fun r47 h48 => gd (decide (kd h45 v0 = 9)) <| gd (decide (r47 = 0 ∨ r47 = 1)) <| some (r47, h48)) else ob2 (F_X6_lookAtNext v1 h) fun _ h54 => ob2 (F_X10_put v0 (-8 : Int32) h54) fun r56 h57 => gd (decide (kd h54 v0 = 9)) <| gd (decide (r56 = 0 ∨ r56 = 1)) <| some (r56, h57)) else F_X10_readAtom_b18 rc v0 v1 v2 h) else F_X10_readAtom_b18 rc v0 v1 v2 h)
set_option maxHeartbeats 4000000 in
set_option maxRecDepth 100000 in
theorem r_X10_readAtom_b0 (rc : Nat → Nat → Nat → Int32 → Hp → Option (Int32 × Hp)) (v0 : Nat) (v1 : Nat) (v2 : Int32) (h : Hp) {x : Cx} {r : Int32} {hz : Hp} (e : F_X10_readAtom_b0 rc v0 v1 v2 h = some (r, hz)) {D9 : Nat} (hD9 : 20 ≤ D9) (hrc0 : ∀ (a0 : Nat) (a1 : Nat) (a2 : Int32) (h9 : Hp) (r9 : Int32) (z9 : Hp), rc 0 a0 a1 a2 h9 = some (r9, z9) → Ct x.2.1 yX10_readAny M_X10_readAny (some .boolean) D9 [.ref a0, .ref a1, .int a2] h9 0 0 (some (.int r9)) z9) (hrc1 : ∀ (a0 : Nat) (a1 : Nat) (a2 : Int32) (h9 : Hp) (r9 : Int32) (z9 : Hp), rc 1 a0 a1 a2 h9 = some (r9, z9) → Ct x.2.1 yX10_readEach M_X10_readEach (some .boolean) D9 [.ref a0, .ref a1, .int a2] h9 0 0 (some (.int r9)) z9) (hrc2 : ∀ (a0 : Nat) (a1 : Nat) (a2 : Int32) (h9 : Hp) (r9 : Int32) (z9 : Hp), rc 2 a0 a1 a2 h9 = some (r9, z9) → Ct x.2.1 yX10_readAtom M_X10_readAtom (some .boolean) D9 [.ref a0, .ref a1, .int a2] h9 0 0 (some (.int r9)) z9) (hrc3 : ∀ (a0 : Nat) (a1 : Nat) (a2 : Int32) (h9 : Hp) (r9 : Int32) (z9 : Hp), rc 3 a0 a1 a2 h9 = some (r9, z9) → Ct x.2.1 yX10_readDeeper M_X10_readDeeper (some .boolean) D9 [.ref a0, .ref a1, .int a2] h9 0 0 (some (.int r9)) z9) (hF : Fin9 M_X10_readAtom x (some .boolean) (some (.int r)) hz) : V M_X10_readAtom x (D9 + 1) 0 [(0, .ref v0), (1, .ref v1), (2, .int v2)] [] h 0 0 := by
  unfold F_X10_readAtom_b0 at e
  refine V_aload_n (pc := 0) (i := 1) dX10_readAtom_0 rfl rfl ?_
  refine V_ldcS (pc := 1) (j := 14) (u := (14 : UInt32)) dX10_readAtom_1 rfl (by decide) ?_
  obtain ⟨r2, g1, e⟩ := ob_some e
  obtain ⟨g3, e⟩ := gd_some e
  refine V_callV (pc := 3) (bc := 0) (bs := 0) (mc := 0) (ms := 0) (st := []) (As := [.float (14 : UInt32)]) (a := v1) (h' := h) (r := some (.int r2)) dX10_readAtom_3 ml_X10_52 (ci := 6) rfl (of_decide_eq_true g3) rfl rfl (Nat.le_of_ble_eq_true rfl) (d' := 4) (by omega) (c_X6_isWord (l := x.2.1) v1 (14 : UInt32) h g1) ?_
  refine V_if_ne (pc := 6) (tgt := 18) dX10_readAtom_6 (by decide) (fun c62 => ?_) (fun c62 => ?_)
  · rw [if_neg c62] at e
    exact V_pick [0, 1, 2] rfl (r_X10_readAtom_b18 rc v0 v1 v2 h e hD9 hrc0 hrc1 hrc2 hrc3 hF)
  · rw [if_pos c62] at e
    refine V_pick [0, 1, 2] rfl ?_
    refine V_aload_n (pc := 9) (i := 1) dX10_readAtom_9 rfl rfl ?_
    refine V_bipush (pc := 10) (v := (40 : Int32)) dX10_readAtom_10 (by decide) ?_
    obtain ⟨r15, g14, e⟩ := ob_some e
    refine V_callV (pc := 12) (bc := 0) (bs := 0) (mc := 0) (ms := 0) (st := []) (As := [.int (40 : Int32)]) (a := v1) (h' := h) (r := some (.int r15)) dX10_readAtom_12 ml_X10_65 (ci := 6) rfl (of_decide_eq_true g3) rfl rfl (Nat.le_of_ble_eq_true rfl) (d' := 0) (by omega) (c_X6_isSign (l := x.2.1) v1 (40 : Int32) h g14) ?_
    refine V_if_eq (pc := 15) (tgt := 40) dX10_readAtom_15 (by decide) (fun c61 => ?_) (fun c61 => ?_)
    · rw [if_pos c61] at e
      refine V_pick [0, 1] rfl ?_
      refine V_aload_n (pc := 40) (i := 1) dX10_readAtom_40 rfl rfl ?_
      refine V_ldcS (pc := 41) (j := 15) (u := (15 : UInt32)) dX10_readAtom_41 rfl (by decide) ?_
      obtain ⟨r17, g16, e⟩ := ob_some e
      refine V_callV (pc := 43) (bc := 0) (bs := 0) (mc := 0) (ms := 0) (st := []) (As := [.float (15 : UInt32)]) (a := v1) (h' := h) (r := some (.int r17)) dX10_readAtom_43 ml_X10_52 (ci := 6) rfl (of_decide_eq_true g3) rfl rfl (Nat.le_of_ble_eq_true rfl) (d' := 4) (by omega) (c_X6_isWord (l := x.2.1) v1 (15 : UInt32) h g16) ?_
      refine V_if_eq (pc := 46) (tgt := 60) dX10_readAtom_46 (by decide) (fun c60 => ?_) (fun c60 => ?_)
      · rw [if_pos c60] at e
        refine V_pick [0, 1] rfl ?_
        refine V_aload_n (pc := 60) (i := 1) dX10_readAtom_60 rfl rfl ?_
        refine V_ldcS (pc := 61) (j := 16) (u := (16 : UInt32)) dX10_readAtom_61 rfl (by decide) ?_
        obtain ⟨r19, g18, e⟩ := ob_some e
        refine V_callV (pc := 63) (bc := 0) (bs := 0) (mc := 0) (ms := 0) (st := []) (As := [.float (16 : UInt32)]) (a := v1) (h' := h) (r := some (.int r19)) dX10_readAtom_63 ml_X10_52 (ci := 6) rfl (of_decide_eq_true g3) rfl rfl (Nat.le_of_ble_eq_true rfl) (d' := 4) (by omega) (c_X6_isWord (l := x.2.1) v1 (16 : UInt32) h g18) ?_
        refine V_if_eq (pc := 66) (tgt := 80) dX10_readAtom_66 (by decide) (fun c51 => ?_) (fun c51 => ?_)
        · rw [if_pos c51] at e
          refine V_pick [0, 1] rfl ?_
          refine V_aload_n (pc := 80) (i := 1) dX10_readAtom_80 rfl rfl ?_
          refine V_ldcS (pc := 81) (j := 17) (u := (17 : UInt32)) dX10_readAtom_81 rfl (by decide) ?_
          obtain ⟨r21, g20, e⟩ := ob_some e
          refine V_callV (pc := 83) (bc := 0) (bs := 0) (mc := 0) (ms := 0) (st := []) (As := [.float (17 : UInt32)]) (a := v1) (h' := h) (r := some (.int r21)) dX10_readAtom_83 ml_X10_52 (ci := 6) rfl (of_decide_eq_true g3) rfl rfl (Nat.le_of_ble_eq_true rfl) (d' := 4) (by omega) (c_X6_isWord (l := x.2.1) v1 (17 : UInt32) h g20) ?_
          refine V_if_eq (pc := 86) (tgt := 122) dX10_readAtom_86 (by decide) (fun c42 => ?_) (fun c42 => ?_)
          · rw [if_pos c42] at e
            refine V_pick [0, 1] rfl ?_
            refine V_aload_n (pc := 122) (i := 0) dX10_readAtom_122 rfl rfl ?_
            refine V_aload_n (pc := 123) (i := 1) dX10_readAtom_123 rfl rfl ?_
            obtain ⟨r23, h24, g22, e⟩ := ob2_some e
            obtain ⟨g25, e⟩ := gd_some e
            refine V_callV (pc := 124) (bc := 0) (bs := 0) (mc := 0) (ms := 0) (st := []) (As := [.ref v1]) (a := v0) (h' := h24) (r := some (.int r23)) dX10_readAtom_124 ml_X10_89 (ci := 9) rfl (of_decide_eq_true g25) rfl rfl (Nat.le_of_ble_eq_true rfl) (d' := 8) (by omega) (c_X10_readComparison (l := x.2.1) v0 v1 h g22) ?_
            obtain ⟨g26, e⟩ := gd_some e
            cases e
            exact V_zret (pc := 127) dX10_readAtom_127 (z01 (of_decide_eq_true g26)) hF
          · rw [if_neg c42] at e
            refine V_pick [0, 1] rfl ?_
            refine V_aload_n (pc := 89) (i := 1) dX10_readAtom_89 rfl rfl ?_
            obtain ⟨r28, h29, g27, e⟩ := ob2_some e
            refine V_callV (pc := 90) (bc := 0) (bs := 0) (mc := 0) (ms := 0) (st := []) (As := []) (a := v1) (h' := h29) (r := none) dX10_readAtom_90 ml_X10_55 (ci := 6) rfl (of_decide_eq_true g3) rfl rfl (Nat.le_of_ble_eq_true rfl) (d' := 1) (by omega) (c_X6_lookAtNext (l := x.2.1) v1 h g27) ?_
            refine V_aload_n (pc := 93) (i := 1) dX10_readAtom_93 rfl rfl ?_
            refine V_iconst (pc := 94) (v := (0 : Int32)) dX10_readAtom_94 (by decide) ?_
            refine V_iconst (pc := 95) (v := (4 : Int32)) dX10_readAtom_95 (by decide) ?_
            obtain ⟨r31, h32, g30, e⟩ := ob2_some e
            obtain ⟨g33, e⟩ := gd_some e
            refine V_callV (pc := 96) (bc := 0) (bs := 0) (mc := 0) (ms := 0) (st := []) (As := [.int (0 : Int32), .int (4 : Int32)]) (a := v1) (h' := h32) (r := some (.int r31)) dX10_readAtom_96 ml_X10_82 (ci := 6) rfl (of_decide_eq_true g33) rfl rfl (Nat.le_of_ble_eq_true rfl) (d' := 2) (by omega) (c_X6_takeNumber (l := x.2.1) v1 (0 : Int32) (4 : Int32) h29 g30) ?_
            refine V_if_eq (pc := 99) (tgt := 120) dX10_readAtom_99 (by decide) (fun c41 => ?_) (fun c41 => ?_)
            · rw [if_pos c41] at e
              exact V_pick [] rfl (r_X10_readAtom_b120 rc h32 e hD9 hrc0 hrc1 hrc2 hrc3 hF)
            · rw [if_neg c41] at e
              refine V_pick [0, 1] rfl ?_
              refine V_aload_n (pc := 102) (i := 0) dX10_readAtom_102 rfl rfl ?_
              refine V_bipush (pc := 103) (v := (-16 : Int32)) dX10_readAtom_103 (by decide) ?_
              refine V_aload_n (pc := 105) (i := 1) dX10_readAtom_105 rfl rfl ?_
              obtain ⟨g35, e⟩ := gd_some e
              refine V_getI (pc := 106) (ci := 6) (k := 5) dX10_readAtom_106 fl_X10_86 rfl (of_decide_eq_true g35) ?_
              refine V_isub (pc := 109) dX10_readAtom_109 ?_
              obtain ⟨r37, h38, g36, e⟩ := ob2_some e
              obtain ⟨g39, e⟩ := gd_some e
              refine V_callV (pc := 110) (bc := 0) (bs := 0) (mc := 0) (ms := 0) (st := []) (As := [.int ((-16 : Int32) - (zI h32 v1 5))]) (a := v0) (h' := h38) (r := some (.int r37)) dX10_readAtom_110 ml_X10_43 (ci := 9) rfl (of_decide_eq_true g39) rfl rfl (Nat.le_of_ble_eq_true rfl) (d' := 0) (by omega) (c_X10_put (l := x.2.1) v0 ((-16 : Int32) - (zI h32 v1 5)) h32 g36) ?_
              refine V_if_eq (pc := 113) (tgt := 120) dX10_readAtom_113 (by decide) (fun c40 => ?_) (fun c40 => ?_)
              · rw [if_pos c40] at e
                exact V_pick [] rfl (r_X10_readAtom_b120 rc h38 e hD9 hrc0 hrc1 hrc2 hrc3 hF)
              · rw [if_neg c40] at e
                refine V_pick [] rfl ?_
                refine V_iconst (pc := 116) (v := (1 : Int32)) dX10_readAtom_116 (by decide) ?_
                refine V_goto (pc := 117) (tgt := 121) dX10_readAtom_117 (by decide) ?_
                exact V_pick [] rfl (r_X10_readAtom_b121 rc (1 : Int32) h38 e hD9 hrc0 hrc1 hrc2 hrc3 hF)
        · rw [if_neg c51] at e
          refine V_pick [0, 1] rfl ?_
          refine V_aload_n (pc := 69) (i := 1) dX10_readAtom_69 rfl rfl ?_
          obtain ⟨r44, h45, g43, e⟩ := ob2_some e
          refine V_callV (pc := 70) (bc := 0) (bs := 0) (mc := 0) (ms := 0) (st := []) (As := []) (a := v1) (h' := h45) (r := none) dX10_readAtom_70 ml_X10_55 (ci := 6) rfl (of_decide_eq_true g3) rfl rfl (Nat.le_of_ble_eq_true rfl) (d' := 1) (by omega) (c_X6_lookAtNext (l := x.2.1) v1 h g43) ?_
          refine V_aload_n (pc := 73) (i := 0) dX10_readAtom_73 rfl rfl ?_
          refine V_bipush (pc := 74) (v := (-9 : Int32)) dX10_readAtom_74 (by decide) ?_
          obtain ⟨r47, h48, g46, e⟩ := ob2_some e
          obtain ⟨g49, e⟩ := gd_some e
          refine V_callV (pc := 76) (bc := 0) (bs := 0) (mc := 0) (ms := 0) (st := []) (As := [.int (-9 : Int32)]) (a := v0) (h' := h48) (r := some (.int r47)) dX10_readAtom_76 ml_X10_43 (ci := 9) rfl (of_decide_eq_true g49) rfl rfl (Nat.le_of_ble_eq_true rfl) (d' := 0) (by omega) (c_X10_put (l := x.2.1) v0 (-9 : Int32) h45 g46) ?_
          obtain ⟨g50, e⟩ := gd_some e
          cases e
          exact V_zret (pc := 79) dX10_readAtom_79 (z01 (of_decide_eq_true g50)) hF
      · rw [if_neg c60] at e
        refine V_pick [0, 1] rfl ?_
        refine V_aload_n (pc := 49) (i := 1) dX10_readAtom_49 rfl rfl ?_
        obtain ⟨r53, h54, g52, e⟩ := ob2_some e
        refine V_callV (pc := 50) (bc := 0) (bs := 0) (mc := 0) (ms := 0) (st := []) (As := []) (a := v1) (h' := h54) (r := none) dX10_readAtom_50 ml_X10_55 (ci := 6) rfl (of_decide_eq_true g3) rfl rfl (Nat.le_of_ble_eq_true rfl) (d' := 1) (by omega) (c_X6_lookAtNext (l := x.2.1) v1 h g52) ?_
        refine V_aload_n (pc := 53) (i := 0) dX10_readAtom_53 rfl rfl ?_
        refine V_bipush (pc := 54) (v := (-8 : Int32)) dX10_readAtom_54 (by decide) ?_
        obtain ⟨r56, h57, g55, e⟩ := ob2_some e
        obtain ⟨g58, e⟩ := gd_some e
        refine V_callV (pc := 56) (bc := 0) (bs := 0) (mc := 0) (ms := 0) (st := []) (As := [.int (-8 : Int32)]) (a := v0) (h' := h57) (r := some (.int r56)) dX10_readAtom_56 ml_X10_43 (ci := 9) rfl (of_decide_eq_true g58) rfl rfl (Nat.le_of_ble_eq_true rfl) (d' := 0) (by omega) (c_X10_put (l := x.2.1) v0 (-8 : Int32) h54 g55) ?_
        obtain ⟨g59, e⟩ := gd_some e
        cases e
        exact V_zret (pc := 59) dX10_readAtom_59 (z01 (of_decide_eq_true g59)) hF
    · rw [if_neg c61] at e
      exact V_pick [0, 1, 2] rfl (r_X10_readAtom_b18 rc v0 v1 v2 h e hD9 hrc0 hrc1 hrc2 hrc3 hF)
theorem dX10_readDeeper_0 : decode cX10_readDeeper 0 = .ok (.aload_n 1, 1) := by decide +kernel
theorem dX10_readDeeper_1 : decode cX10_readDeeper 1 = .ok (.ldc 63, 2) := by decide +kernel
theorem dX10_readDeeper_3 : decode cX10_readDeeper 3 = .ok (.invokevirtual 52, 3) := by decide +kernel
theorem dX10_readDeeper_6 : decode cX10_readDeeper 6 = .ok (.istore_n 3, 1) := by decide +kernel
theorem dX10_readDeeper_7 : decode cX10_readDeeper 7 = .ok (.aload_n 1, 1) := by decide +kernel
theorem dX10_readDeeper_8 : decode cX10_readDeeper 8 = .ok (.invokevirtual 55, 3) := by decide +kernel
theorem dX10_readDeeper_11 : decode cX10_readDeeper 11 = .ok (.iload_n 3, 1) := by decide +kernel
theorem dX10_readDeeper_12 : decode cX10_readDeeper 12 = .ok (.ifCond .eq 27, 3) := by decide +kernel
theorem dX10_readDeeper_15 : decode cX10_readDeeper 15 = .ok (.aload_n 0, 1) := by decide +kernel
theorem dX10_readDeeper_16 : decode cX10_readDeeper 16 = .ok (.aload_n 1, 1) := by decide +kernel
theorem dX10_readDeeper_17 : decode cX10_readDeeper 17 = .ok (.iload_n 2, 1) := by decide +kernel
theorem dX10_readDeeper_18 : decode cX10_readDeeper 18 = .ok (.invokevirtual 58, 3) := by decide +kernel
theorem dX10_readDeeper_21 : decode cX10_readDeeper 21 = .ok (.ifCond .eq 16, 3) := by decide +kernel
theorem dX10_readDeeper_24 : decode cX10_readDeeper 24 = .ok (.aload_n 0, 1) := by decide +kernel
theorem dX10_readDeeper_25 : decode cX10_readDeeper 25 = .ok (.bipush (-6), 2) := by decide +kernel
theorem dX10_readDeeper_27 : decode cX10_readDeeper 27 = .ok (.invokevirtual 43, 3) := by decide +kernel
theorem dX10_readDeeper_30 : decode cX10_readDeeper 30 = .ok (.ifCond .eq 7, 3) := by decide +kernel
theorem dX10_readDeeper_33 : decode cX10_readDeeper 33 = .ok (.iconst 1, 1) := by decide +kernel
theorem dX10_readDeeper_34 : decode cX10_readDeeper 34 = .ok (.goto 4, 3) := by decide +kernel
theorem dX10_readDeeper_37 : decode cX10_readDeeper 37 = .ok (.iconst 0, 1) := by decide +kernel
theorem dX10_readDeeper_38 : decode cX10_readDeeper 38 = .ok (.ireturn, 1) := by decide +kernel
theorem dX10_readDeeper_39 : decode cX10_readDeeper 39 = .ok (.aload_n 0, 1) := by decide +kernel
theorem dX10_readDeeper_40 : decode cX10_readDeeper 40 = .ok (.aload_n 1, 1) := by decide +kernel
theorem dX10_readDeeper_41 : decode cX10_readDeeper 41 = .ok (.iload_n 2, 1) := by decide +kernel
theorem dX10_readDeeper_42 : decode cX10_readDeeper 42 = .ok (.invokevirtual 39, 3) := by decide +kernel
theorem dX10_readDeeper_45 : decode cX10_readDeeper 45 = .ok (.ifCond .eq 16, 3) := by decide +kernel
theorem dX10_readDeeper_48 : decode cX10_readDeeper 48 = .ok (.aload_n 1, 1) := by decide +kernel
theorem dX10_readDeeper_49 : decode cX10_readDeeper 49 = .ok (.bipush 41, 2) := by decide +kernel
theorem dX10_readDeeper_51 : decode cX10_readDeeper 51 = .ok (.invokevirtual 93, 3) := by decide +kernel
theorem dX10_readDeeper_54 : decode cX10_readDeeper 54 = .ok (.ifCond .eq 7, 3) := by decide +kernel
theorem dX10_readDeeper_57 : decode cX10_readDeeper 57 = .ok (.iconst 1, 1) := by decide +kernel
theorem dX10_readDeeper_58 : decode cX10_readDeeper 58 = .ok (.goto 4, 3) := by decide +kernel
theorem dX10_readDeeper_61 : decode cX10_readDeeper 61 = .ok (.iconst 0, 1) := by decide +kernel
theorem dX10_readDeeper_62 : decode cX10_readDeeper 62 = .ok (.ireturn, 1) := by decide +kernel
set_option maxRecDepth 100000 in
def F_X10_readDeeper_b62 (rc : Nat → Nat → Nat → Int32 → Hp → Option (Int32 × Hp)) (t0 : Int32) (h : Hp) : Option (Int32 × Hp) :=
  gd (decide (t0 = 0 ∨ t0 = 1)) <| some (t0, h)
set_option maxHeartbeats 4000000 in
set_option maxRecDepth 100000 in
theorem r_X10_readDeeper_b62 (rc : Nat → Nat → Nat → Int32 → Hp → Option (Int32 × Hp)) (t0 : Int32) (h : Hp) {x : Cx} {r : Int32} {hz : Hp} (e : F_X10_readDeeper_b62 rc t0 h = some (r, hz)) {D9 : Nat} (hD9 : 20 ≤ D9) (hrc0 : ∀ (a0 : Nat) (a1 : Nat) (a2 : Int32) (h9 : Hp) (r9 : Int32) (z9 : Hp), rc 0 a0 a1 a2 h9 = some (r9, z9) → Ct x.2.1 yX10_readAny M_X10_readAny (some .boolean) D9 [.ref a0, .ref a1, .int a2] h9 0 0 (some (.int r9)) z9) (hrc1 : ∀ (a0 : Nat) (a1 : Nat) (a2 : Int32) (h9 : Hp) (r9 : Int32) (z9 : Hp), rc 1 a0 a1 a2 h9 = some (r9, z9) → Ct x.2.1 yX10_readEach M_X10_readEach (some .boolean) D9 [.ref a0, .ref a1, .int a2] h9 0 0 (some (.int r9)) z9) (hrc2 : ∀ (a0 : Nat) (a1 : Nat) (a2 : Int32) (h9 : Hp) (r9 : Int32) (z9 : Hp), rc 2 a0 a1 a2 h9 = some (r9, z9) → Ct x.2.1 yX10_readAtom M_X10_readAtom (some .boolean) D9 [.ref a0, .ref a1, .int a2] h9 0 0 (some (.int r9)) z9) (hrc3 : ∀ (a0 : Nat) (a1 : Nat) (a2 : Int32) (h9 : Hp) (r9 : Int32) (z9 : Hp), rc 3 a0 a1 a2 h9 = some (r9, z9) → Ct x.2.1 yX10_readDeeper M_X10_readDeeper (some .boolean) D9 [.ref a0, .ref a1, .int a2] h9 0 0 (some (.int r9)) z9) (hF : Fin9 M_X10_readDeeper x (some .boolean) (some (.int r)) hz) : V M_X10_readDeeper x (D9 + 1) 62 [] [.int t0] h 0 0 := by
  unfold F_X10_readDeeper_b62 at e
  obtain ⟨g11, e⟩ := gd_some e
  cases e
  exact V_zret (pc := 62) dX10_readDeeper_62 (z01 (of_decide_eq_true g11)) hF
set_option maxRecDepth 100000 in
def F_X10_readDeeper_b61 (rc : Nat → Nat → Nat → Int32 → Hp → Option (Int32 × Hp))  (h : Hp) : Option (Int32 × Hp) :=
  F_X10_readDeeper_b62 rc (0 : Int32) h
set_option maxHeartbeats 4000000 in
set_option maxRecDepth 100000 in
theorem r_X10_readDeeper_b61 (rc : Nat → Nat → Nat → Int32 → Hp → Option (Int32 × Hp))  (h : Hp) {x : Cx} {r : Int32} {hz : Hp} (e : F_X10_readDeeper_b61 rc  h = some (r, hz)) {D9 : Nat} (hD9 : 20 ≤ D9) (hrc0 : ∀ (a0 : Nat) (a1 : Nat) (a2 : Int32) (h9 : Hp) (r9 : Int32) (z9 : Hp), rc 0 a0 a1 a2 h9 = some (r9, z9) → Ct x.2.1 yX10_readAny M_X10_readAny (some .boolean) D9 [.ref a0, .ref a1, .int a2] h9 0 0 (some (.int r9)) z9) (hrc1 : ∀ (a0 : Nat) (a1 : Nat) (a2 : Int32) (h9 : Hp) (r9 : Int32) (z9 : Hp), rc 1 a0 a1 a2 h9 = some (r9, z9) → Ct x.2.1 yX10_readEach M_X10_readEach (some .boolean) D9 [.ref a0, .ref a1, .int a2] h9 0 0 (some (.int r9)) z9) (hrc2 : ∀ (a0 : Nat) (a1 : Nat) (a2 : Int32) (h9 : Hp) (r9 : Int32) (z9 : Hp), rc 2 a0 a1 a2 h9 = some (r9, z9) → Ct x.2.1 yX10_readAtom M_X10_readAtom (some .boolean) D9 [.ref a0, .ref a1, .int a2] h9 0 0 (some (.int r9)) z9) (hrc3 : ∀ (a0 : Nat) (a1 : Nat) (a2 : Int32) (h9 : Hp) (r9 : Int32) (z9 : Hp), rc 3 a0 a1 a2 h9 = some (r9, z9) → Ct x.2.1 yX10_readDeeper M_X10_readDeeper (some .boolean) D9 [.ref a0, .ref a1, .int a2] h9 0 0 (some (.int r9)) z9) (hF : Fin9 M_X10_readDeeper x (some .boolean) (some (.int r)) hz) : V M_X10_readDeeper x (D9 + 1) 61 [] [] h 0 0 := by
  unfold F_X10_readDeeper_b61 at e
  refine V_iconst (pc := 61) (v := (0 : Int32)) dX10_readDeeper_61 (by decide) ?_
  exact V_pick [] rfl (r_X10_readDeeper_b62 rc (0 : Int32) h e hD9 hrc0 hrc1 hrc2 hrc3 hF)
set_option maxRecDepth 100000 in
def F_X10_readDeeper_b38 (rc : Nat → Nat → Nat → Int32 → Hp → Option (Int32 × Hp)) (t0 : Int32) (h : Hp) : Option (Int32 × Hp) :=
  gd (decide (t0 = 0 ∨ t0 = 1)) <| some (t0, h)
set_option maxHeartbeats 4000000 in
set_option maxRecDepth 100000 in
theorem r_X10_readDeeper_b38 (rc : Nat → Nat → Nat → Int32 → Hp → Option (Int32 × Hp)) (t0 : Int32) (h : Hp) {x : Cx} {r : Int32} {hz : Hp} (e : F_X10_readDeeper_b38 rc t0 h = some (r, hz)) {D9 : Nat} (hD9 : 20 ≤ D9) (hrc0 : ∀ (a0 : Nat) (a1 : Nat) (a2 : Int32) (h9 : Hp) (r9 : Int32) (z9 : Hp), rc 0 a0 a1 a2 h9 = some (r9, z9) → Ct x.2.1 yX10_readAny M_X10_readAny (some .boolean) D9 [.ref a0, .ref a1, .int a2] h9 0 0 (some (.int r9)) z9) (hrc1 : ∀ (a0 : Nat) (a1 : Nat) (a2 : Int32) (h9 : Hp) (r9 : Int32) (z9 : Hp), rc 1 a0 a1 a2 h9 = some (r9, z9) → Ct x.2.1 yX10_readEach M_X10_readEach (some .boolean) D9 [.ref a0, .ref a1, .int a2] h9 0 0 (some (.int r9)) z9) (hrc2 : ∀ (a0 : Nat) (a1 : Nat) (a2 : Int32) (h9 : Hp) (r9 : Int32) (z9 : Hp), rc 2 a0 a1 a2 h9 = some (r9, z9) → Ct x.2.1 yX10_readAtom M_X10_readAtom (some .boolean) D9 [.ref a0, .ref a1, .int a2] h9 0 0 (some (.int r9)) z9) (hrc3 : ∀ (a0 : Nat) (a1 : Nat) (a2 : Int32) (h9 : Hp) (r9 : Int32) (z9 : Hp), rc 3 a0 a1 a2 h9 = some (r9, z9) → Ct x.2.1 yX10_readDeeper M_X10_readDeeper (some .boolean) D9 [.ref a0, .ref a1, .int a2] h9 0 0 (some (.int r9)) z9) (hF : Fin9 M_X10_readDeeper x (some .boolean) (some (.int r)) hz) : V M_X10_readDeeper x (D9 + 1) 38 [] [.int t0] h 0 0 := by
  unfold F_X10_readDeeper_b38 at e
  obtain ⟨g22, e⟩ := gd_some e
  cases e
  exact V_zret (pc := 38) dX10_readDeeper_38 (z01 (of_decide_eq_true g22)) hF
set_option maxRecDepth 100000 in
def F_X10_readDeeper_b37 (rc : Nat → Nat → Nat → Int32 → Hp → Option (Int32 × Hp))  (h : Hp) : Option (Int32 × Hp) :=
  F_X10_readDeeper_b38 rc (0 : Int32) h
set_option maxHeartbeats 4000000 in
set_option maxRecDepth 100000 in
theorem r_X10_readDeeper_b37 (rc : Nat → Nat → Nat → Int32 → Hp → Option (Int32 × Hp))  (h : Hp) {x : Cx} {r : Int32} {hz : Hp} (e : F_X10_readDeeper_b37 rc  h = some (r, hz)) {D9 : Nat} (hD9 : 20 ≤ D9) (hrc0 : ∀ (a0 : Nat) (a1 : Nat) (a2 : Int32) (h9 : Hp) (r9 : Int32) (z9 : Hp), rc 0 a0 a1 a2 h9 = some (r9, z9) → Ct x.2.1 yX10_readAny M_X10_readAny (some .boolean) D9 [.ref a0, .ref a1, .int a2] h9 0 0 (some (.int r9)) z9) (hrc1 : ∀ (a0 : Nat) (a1 : Nat) (a2 : Int32) (h9 : Hp) (r9 : Int32) (z9 : Hp), rc 1 a0 a1 a2 h9 = some (r9, z9) → Ct x.2.1 yX10_readEach M_X10_readEach (some .boolean) D9 [.ref a0, .ref a1, .int a2] h9 0 0 (some (.int r9)) z9) (hrc2 : ∀ (a0 : Nat) (a1 : Nat) (a2 : Int32) (h9 : Hp) (r9 : Int32) (z9 : Hp), rc 2 a0 a1 a2 h9 = some (r9, z9) → Ct x.2.1 yX10_readAtom M_X10_readAtom (some .boolean) D9 [.ref a0, .ref a1, .int a2] h9 0 0 (some (.int r9)) z9) (hrc3 : ∀ (a0 : Nat) (a1 : Nat) (a2 : Int32) (h9 : Hp) (r9 : Int32) (z9 : Hp), rc 3 a0 a1 a2 h9 = some (r9, z9) → Ct x.2.1 yX10_readDeeper M_X10_readDeeper (some .boolean) D9 [.ref a0, .ref a1, .int a2] h9 0 0 (some (.int r9)) z9) (hF : Fin9 M_X10_readDeeper x (some .boolean) (some (.int r)) hz) : V M_X10_readDeeper x (D9 + 1) 37 [] [] h 0 0 := by
  unfold F_X10_readDeeper_b37 at e
  refine V_iconst (pc := 37) (v := (0 : Int32)) dX10_readDeeper_37 (by decide) ?_
  exact V_pick [] rfl (r_X10_readDeeper_b38 rc (0 : Int32) h e hD9 hrc0 hrc1 hrc2 hrc3 hF)
set_option maxRecDepth 100000 in
def F_X10_readDeeper_b0 (rc : Nat → Nat → Nat → Int32 → Hp → Option (Int32 × Hp)) (v0 : Nat) (v1 : Nat) (v2 : Int32) (h : Hp) : Option (Int32 × Hp) :=
  ob (F_X6_isWord v1 (14 : UInt32) h) fun r2 => gd (decide (kd h v1 = 6)) <| ob2 (F_X6_lookAtNext v1 h) fun _ h6 => (if r2 = 0 then ob2 (rc 0 v0 v1 v2 h6) fun r8 h9 => gd (decide (kd h6 v0 = 9)) <| (if r8 = 0 then F_X10_readDeeper_b61 rc h9 else ob2 (F_X6_takeSign v1 (41 : Int32) h9) fun r13 h14 => gd (decide (kd h9 v1 = 6)) <| (if r13 = 0 then F_X10_readDeeper_b61 rc h14 else F_X10_readDeeper_b62 rc (1 : Int32) h14)) else ob2 (rc 2 v0 v1 v2 h6) fun r19 h20 => gd (decide (kd h6 v0 = 9)) <| (if r19 = 0 then F_X10_readDeeper_b37 rc h20 else ob2 (F_X10_put v0 (-6 : Int32) h20) fun r24 h25 => gd (decide (kd h20 v0 = 9)) <| (if r24 = 0 then F_X10_readDeeper_b37 rc h25 else F_X10_readDeeper_b38 rc (1 : Int32) h25)))
set_option maxHeartbeats 4000000 in
set_option maxRecDepth 100000 in
theorem r_X10_readDeeper_b0 (rc : Nat → Nat → Nat → Int32 → Hp → Option (Int32 × Hp)) (v0 : Nat) (v1 : Nat) (v2 : Int32) (h : Hp) {x : Cx} {r : Int32} {hz : Hp} (e : F_X10_readDeeper_b0 rc v0 v1 v2 h = some (r, hz)) {D9 : Nat} (hD9 : 20 ≤ D9) (hrc0 : ∀ (a0 : Nat) (a1 : Nat) (a2 : Int32) (h9 : Hp) (r9 : Int32) (z9 : Hp), rc 0 a0 a1 a2 h9 = some (r9, z9) → Ct x.2.1 yX10_readAny M_X10_readAny (some .boolean) D9 [.ref a0, .ref a1, .int a2] h9 0 0 (some (.int r9)) z9) (hrc1 : ∀ (a0 : Nat) (a1 : Nat) (a2 : Int32) (h9 : Hp) (r9 : Int32) (z9 : Hp), rc 1 a0 a1 a2 h9 = some (r9, z9) → Ct x.2.1 yX10_readEach M_X10_readEach (some .boolean) D9 [.ref a0, .ref a1, .int a2] h9 0 0 (some (.int r9)) z9) (hrc2 : ∀ (a0 : Nat) (a1 : Nat) (a2 : Int32) (h9 : Hp) (r9 : Int32) (z9 : Hp), rc 2 a0 a1 a2 h9 = some (r9, z9) → Ct x.2.1 yX10_readAtom M_X10_readAtom (some .boolean) D9 [.ref a0, .ref a1, .int a2] h9 0 0 (some (.int r9)) z9) (hrc3 : ∀ (a0 : Nat) (a1 : Nat) (a2 : Int32) (h9 : Hp) (r9 : Int32) (z9 : Hp), rc 3 a0 a1 a2 h9 = some (r9, z9) → Ct x.2.1 yX10_readDeeper M_X10_readDeeper (some .boolean) D9 [.ref a0, .ref a1, .int a2] h9 0 0 (some (.int r9)) z9) (hF : Fin9 M_X10_readDeeper x (some .boolean) (some (.int r)) hz) : V M_X10_readDeeper x (D9 + 1) 0 [(0, .ref v0), (1, .ref v1), (2, .int v2)] [] h 0 0 := by
  unfold F_X10_readDeeper_b0 at e
  refine V_aload_n (pc := 0) (i := 1) dX10_readDeeper_0 rfl rfl ?_
  refine V_ldcS (pc := 1) (j := 14) (u := (14 : UInt32)) dX10_readDeeper_1 rfl (by decide) ?_
  obtain ⟨r2, g1, e⟩ := ob_some e
  obtain ⟨g3, e⟩ := gd_some e
  refine V_callV (pc := 3) (bc := 0) (bs := 0) (mc := 0) (ms := 0) (st := []) (As := [.float (14 : UInt32)]) (a := v1) (h' := h) (r := some (.int r2)) dX10_readDeeper_3 ml_X10_52 (ci := 6) rfl (of_decide_eq_true g3) rfl rfl (Nat.le_of_ble_eq_true rfl) (d' := 4) (by omega) (c_X6_isWord (l := x.2.1) v1 (14 : UInt32) h g1) ?_
  refine V_istore_n (pc := 6) (i := 3) (lv' := [(3, .int r2), (0, .ref v0), (1, .ref v1), (2, .int v2)]) dX10_readDeeper_6 rfl (by decide) rfl ?_
  refine V_aload_n (pc := 7) (i := 1) dX10_readDeeper_7 rfl rfl ?_
  obtain ⟨r5, h6, g4, e⟩ := ob2_some e
  refine V_callV (pc := 8) (bc := 0) (bs := 0) (mc := 0) (ms := 0) (st := []) (As := []) (a := v1) (h' := h6) (r := none) dX10_readDeeper_8 ml_X10_55 (ci := 6) rfl (of_decide_eq_true g3) rfl rfl (Nat.le_of_ble_eq_true rfl) (d' := 1) (by omega) (c_X6_lookAtNext (l := x.2.1) v1 h g4) ?_
  refine V_iload_n (pc := 11) (i := 3) dX10_readDeeper_11 rfl rfl ?_
  refine V_if_eq (pc := 12) (tgt := 39) dX10_readDeeper_12 (by decide) (fun c29 => ?_) (fun c29 => ?_)
  · rw [if_pos c29] at e
    refine V_pick [1, 2, 3] rfl ?_
    refine V_aload_n (pc := 39) (i := 0) dX10_readDeeper_39 rfl rfl ?_
    refine V_aload_n (pc := 40) (i := 1) dX10_readDeeper_40 rfl rfl ?_
    refine V_iload_n (pc := 41) (i := 2) dX10_readDeeper_41 rfl rfl ?_
    obtain ⟨r8, h9, g7, e⟩ := ob2_some e
    obtain ⟨g10, e⟩ := gd_some e
    refine V_callV (pc := 42) (bc := 0) (bs := 0) (mc := 0) (ms := 0) (st := []) (As := [.ref v1, .int v2]) (a := v0) (h' := h9) (r := some (.int r8)) dX10_readDeeper_42 ml_X10_39 (ci := 9) rfl (of_decide_eq_true g10) rfl rfl (Nat.le_of_ble_eq_true rfl) (d' := D9) (by omega) (hrc0 v0 v1 v2 h6 _ _ g7) ?_
    refine V_if_eq (pc := 45) (tgt := 61) dX10_readDeeper_45 (by decide) (fun c17 => ?_) (fun c17 => ?_)
    · rw [if_pos c17] at e
      exact V_pick [] rfl (r_X10_readDeeper_b61 rc h9 e hD9 hrc0 hrc1 hrc2 hrc3 hF)
    · rw [if_neg c17] at e
      refine V_pick [1] rfl ?_
      refine V_aload_n (pc := 48) (i := 1) dX10_readDeeper_48 rfl rfl ?_
      refine V_bipush (pc := 49) (v := (41 : Int32)) dX10_readDeeper_49 (by decide) ?_
      obtain ⟨r13, h14, g12, e⟩ := ob2_some e
      obtain ⟨g15, e⟩ := gd_some e
      refine V_callV (pc := 51) (bc := 0) (bs := 0) (mc := 0) (ms := 0) (st := []) (As := [.int (41 : Int32)]) (a := v1) (h' := h14) (r := some (.int r13)) dX10_readDeeper_51 ml_X10_93 (ci := 6) rfl (of_decide_eq_true g15) rfl rfl (Nat.le_of_ble_eq_true rfl) (d' := 2) (by omega) (c_X6_takeSign (l := x.2.1) v1 (41 : Int32) h9 g12) ?_
      refine V_if_eq (pc := 54) (tgt := 61) dX10_readDeeper_54 (by decide) (fun c16 => ?_) (fun c16 => ?_)
      · rw [if_pos c16] at e
        exact V_pick [] rfl (r_X10_readDeeper_b61 rc h14 e hD9 hrc0 hrc1 hrc2 hrc3 hF)
      · rw [if_neg c16] at e
        refine V_pick [] rfl ?_
        refine V_iconst (pc := 57) (v := (1 : Int32)) dX10_readDeeper_57 (by decide) ?_
        refine V_goto (pc := 58) (tgt := 62) dX10_readDeeper_58 (by decide) ?_
        exact V_pick [] rfl (r_X10_readDeeper_b62 rc (1 : Int32) h14 e hD9 hrc0 hrc1 hrc2 hrc3 hF)
  · rw [if_neg c29] at e
    refine V_pick [1, 2, 3] rfl ?_
    refine V_aload_n (pc := 15) (i := 0) dX10_readDeeper_15 rfl rfl ?_
    refine V_aload_n (pc := 16) (i := 1) dX10_readDeeper_16 rfl rfl ?_
    refine V_iload_n (pc := 17) (i := 2) dX10_readDeeper_17 rfl rfl ?_
    obtain ⟨r19, h20, g18, e⟩ := ob2_some e
    obtain ⟨g21, e⟩ := gd_some e
    refine V_callV (pc := 18) (bc := 0) (bs := 0) (mc := 0) (ms := 0) (st := []) (As := [.ref v1, .int v2]) (a := v0) (h' := h20) (r := some (.int r19)) dX10_readDeeper_18 ml_X10_58 (ci := 9) rfl (of_decide_eq_true g21) rfl rfl (Nat.le_of_ble_eq_true rfl) (d' := D9) (by omega) (hrc2 v0 v1 v2 h6 _ _ g18) ?_
    refine V_if_eq (pc := 21) (tgt := 37) dX10_readDeeper_21 (by decide) (fun c28 => ?_) (fun c28 => ?_)
    · rw [if_pos c28] at e
      exact V_pick [] rfl (r_X10_readDeeper_b37 rc h20 e hD9 hrc0 hrc1 hrc2 hrc3 hF)
    · rw [if_neg c28] at e
      refine V_pick [0] rfl ?_
      refine V_aload_n (pc := 24) (i := 0) dX10_readDeeper_24 rfl rfl ?_
      refine V_bipush (pc := 25) (v := (-6 : Int32)) dX10_readDeeper_25 (by decide) ?_
      obtain ⟨r24, h25, g23, e⟩ := ob2_some e
      obtain ⟨g26, e⟩ := gd_some e
      refine V_callV (pc := 27) (bc := 0) (bs := 0) (mc := 0) (ms := 0) (st := []) (As := [.int (-6 : Int32)]) (a := v0) (h' := h25) (r := some (.int r24)) dX10_readDeeper_27 ml_X10_43 (ci := 9) rfl (of_decide_eq_true g26) rfl rfl (Nat.le_of_ble_eq_true rfl) (d' := 0) (by omega) (c_X10_put (l := x.2.1) v0 (-6 : Int32) h20 g23) ?_
      refine V_if_eq (pc := 30) (tgt := 37) dX10_readDeeper_30 (by decide) (fun c27 => ?_) (fun c27 => ?_)
      · rw [if_pos c27] at e
        exact V_pick [] rfl (r_X10_readDeeper_b37 rc h25 e hD9 hrc0 hrc1 hrc2 hrc3 hF)
      · rw [if_neg c27] at e
        refine V_pick [] rfl ?_
        refine V_iconst (pc := 33) (v := (1 : Int32)) dX10_readDeeper_33 (by decide) ?_
        refine V_goto (pc := 34) (tgt := 38) dX10_readDeeper_34 (by decide) ?_
        exact V_pick [] rfl (r_X10_readDeeper_b38 rc (1 : Int32) h25 e hD9 hrc0 hrc1 hrc2 hrc3 hF)
def FR_X10 : Nat → Nat → Nat → Nat → Int32 → Hp → Option (Int32 × Hp)
  | 0 => fun _ _ _ _ _ => none
  | n + 1 => fun j a0 a1 a2 h => if j = 0 then F_X10_readAny_b0 (FR_X10 n) a0 a1 a2 h else if j = 1 then F_X10_readEach_b0 (FR_X10 n) a0 a1 a2 h else if j = 2 then F_X10_readAtom_b0 (FR_X10 n) a0 a1 a2 h else F_X10_readDeeper_b0 (FR_X10 n) a0 a1 a2 h
set_option maxHeartbeats 4000000 in
set_option maxRecDepth 100000 in
theorem cR_X10 (l : Launch) : ∀ n : Nat, (∀ (a0 : Nat) (a1 : Nat) (a2 : Int32) (h : Hp) (r : Int32) (hz : Hp), FR_X10 n 0 a0 a1 a2 h = some (r, hz) → Ct l yX10_readAny M_X10_readAny (some .boolean) (20 + n) [.ref a0, .ref a1, .int a2] h 0 0 (some (.int r)) hz) ∧ (∀ (a0 : Nat) (a1 : Nat) (a2 : Int32) (h : Hp) (r : Int32) (hz : Hp), FR_X10 n 1 a0 a1 a2 h = some (r, hz) → Ct l yX10_readEach M_X10_readEach (some .boolean) (20 + n) [.ref a0, .ref a1, .int a2] h 0 0 (some (.int r)) hz) ∧ (∀ (a0 : Nat) (a1 : Nat) (a2 : Int32) (h : Hp) (r : Int32) (hz : Hp), FR_X10 n 2 a0 a1 a2 h = some (r, hz) → Ct l yX10_readAtom M_X10_readAtom (some .boolean) (20 + n) [.ref a0, .ref a1, .int a2] h 0 0 (some (.int r)) hz) ∧ (∀ (a0 : Nat) (a1 : Nat) (a2 : Int32) (h : Hp) (r : Int32) (hz : Hp), FR_X10 n 3 a0 a1 a2 h = some (r, hz) → Ct l yX10_readDeeper M_X10_readDeeper (some .boolean) (20 + n) [.ref a0, .ref a1, .int a2] h 0 0 (some (.int r)) hz)
  | 0 => ⟨(fun _ _ _ _ _ _ e => by cases e), (fun _ _ _ _ _ _ e => by cases e), (fun _ _ _ _ _ _ e => by cases e), (fun _ _ _ _ _ _ e => by cases e)⟩
  | n + 1 => by
    obtain ⟨k0, k1, k2, k3⟩ := cR_X10 l n
    refine ⟨?_, ?_, ?_, ?_⟩
    · intro a0 a1 a2 h r hz e
      have e : F_X10_readAny_b0 (FR_X10 n) a0 a1 a2 h = some (r, hz) := e
      refine Ct_of rfl rfl (fun q => by cases q) (Nat.le_of_ble_eq_true rfl) (fun x hx hF => ?_)
      subst hx
      rw [show 20 + (n + 1) = (20 + n) + 1 by omega]
      exact V_pick [0, 1, 2] rfl (r_X10_readAny_b0 (FR_X10 n) a0 a1 a2 h e (by omega) k0 k1 k2 k3 hF)
    · intro a0 a1 a2 h r hz e
      have e : F_X10_readEach_b0 (FR_X10 n) a0 a1 a2 h = some (r, hz) := e
      refine Ct_of rfl rfl (fun q => by cases q) (Nat.le_of_ble_eq_true rfl) (fun x hx hF => ?_)
      subst hx
      rw [show 20 + (n + 1) = (20 + n) + 1 by omega]
      exact V_pick [0, 1, 2] rfl (r_X10_readEach_b0 (FR_X10 n) a0 a1 a2 h e (by omega) k0 k1 k2 k3 hF)
    · intro a0 a1 a2 h r hz e
      have e : F_X10_readAtom_b0 (FR_X10 n) a0 a1 a2 h = some (r, hz) := e
      refine Ct_of rfl rfl (fun q => by cases q) (Nat.le_of_ble_eq_true rfl) (fun x hx hF => ?_)
      subst hx
      rw [show 20 + (n + 1) = (20 + n) + 1 by omega]
      exact V_pick [0, 1, 2] rfl (r_X10_readAtom_b0 (FR_X10 n) a0 a1 a2 h e (by omega) k0 k1 k2 k3 hF)
    · intro a0 a1 a2 h r hz e
      have e : F_X10_readDeeper_b0 (FR_X10 n) a0 a1 a2 h = some (r, hz) := e
      refine Ct_of rfl rfl (fun q => by cases q) (Nat.le_of_ble_eq_true rfl) (fun x hx hF => ?_)
      subst hx
      rw [show 20 + (n + 1) = (20 + n) + 1 by omega]
      exact V_pick [0, 1, 2] rfl (r_X10_readDeeper_b0 (FR_X10 n) a0 a1 a2 h e (by omega) k0 k1 k2 k3 hF)
def F_X10_readAny (a0 : Nat) (a1 : Nat) (a2 : Int32) (h : Hp) : Option (Int32 × Hp) := FR_X10 40 0 a0 a1 a2 h
theorem c_X10_readAny {l : Launch} (a0 : Nat) (a1 : Nat) (a2 : Int32) (h : Hp) {r : Int32} {hz : Hp} (e : F_X10_readAny a0 a1 a2 h = some (r, hz)) : Ct l yX10_readAny M_X10_readAny (some .boolean) 60 [.ref a0, .ref a1, .int a2] h 0 0 (some (.int r)) hz := (cR_X10 l 40).1 a0 a1 a2 h r hz e
def F_X10_readEach (a0 : Nat) (a1 : Nat) (a2 : Int32) (h : Hp) : Option (Int32 × Hp) := FR_X10 40 1 a0 a1 a2 h
theorem c_X10_readEach {l : Launch} (a0 : Nat) (a1 : Nat) (a2 : Int32) (h : Hp) {r : Int32} {hz : Hp} (e : F_X10_readEach a0 a1 a2 h = some (r, hz)) : Ct l yX10_readEach M_X10_readEach (some .boolean) 60 [.ref a0, .ref a1, .int a2] h 0 0 (some (.int r)) hz := (cR_X10 l 40).2.1 a0 a1 a2 h r hz e
def F_X10_readAtom (a0 : Nat) (a1 : Nat) (a2 : Int32) (h : Hp) : Option (Int32 × Hp) := FR_X10 40 2 a0 a1 a2 h
theorem c_X10_readAtom {l : Launch} (a0 : Nat) (a1 : Nat) (a2 : Int32) (h : Hp) {r : Int32} {hz : Hp} (e : F_X10_readAtom a0 a1 a2 h = some (r, hz)) : Ct l yX10_readAtom M_X10_readAtom (some .boolean) 60 [.ref a0, .ref a1, .int a2] h 0 0 (some (.int r)) hz := (cR_X10 l 40).2.2.1 a0 a1 a2 h r hz e
def F_X10_readDeeper (a0 : Nat) (a1 : Nat) (a2 : Int32) (h : Hp) : Option (Int32 × Hp) := FR_X10 40 3 a0 a1 a2 h
theorem c_X10_readDeeper {l : Launch} (a0 : Nat) (a1 : Nat) (a2 : Int32) (h : Hp) {r : Int32} {hz : Hp} (e : F_X10_readDeeper a0 a1 a2 h = some (r, hz)) : Ct l yX10_readDeeper M_X10_readDeeper (some .boolean) 60 [.ref a0, .ref a1, .int a2] h 0 0 (some (.int r)) hz := (cR_X10 l 40).2.2.2 a0 a1 a2 h r hz e
theorem dX11_seats_0 : decode cX11_seats 0 = .ok (.iload_n 1, 1) := by decide +kernel
theorem dX11_seats_1 : decode cX11_seats 1 = .ok (.ifCond .lt 8, 3) := by decide +kernel
theorem dX11_seats_4 : decode cX11_seats 4 = .ok (.iload_n 1, 1) := by decide +kernel
theorem dX11_seats_5 : decode cX11_seats 5 = .ok (.iconst 2, 1) := by decide +kernel
theorem dX11_seats_6 : decode cX11_seats 6 = .ok (.if_icmp .le 13, 3) := by decide +kernel
theorem dX11_seats_9 : decode cX11_seats 9 = .ok (.new 182, 3) := by decide +kernel
theorem dX11_seats_12 : decode cX11_seats 12 = .ok (.dup, 1) := by decide +kernel
theorem dX11_seats_13 : decode cX11_seats 13 = .ok (.ldc 184, 2) := by decide +kernel
theorem dX11_seats_15 : decode cX11_seats 15 = .ok (.invokespecial 186, 3) := by decide +kernel
theorem dX11_seats_18 : decode cX11_seats 18 = .ok (.athrow, 1) := by decide +kernel
theorem dX11_seats_19 : decode cX11_seats 19 = .ok (.aload_n 0, 1) := by decide +kernel
theorem dX11_seats_20 : decode cX11_seats 20 = .ok (.getfield 54, 3) := by decide +kernel
theorem dX11_seats_23 : decode cX11_seats 23 = .ok (.aload_n 0, 1) := by decide +kernel
theorem dX11_seats_24 : decode cX11_seats 24 = .ok (.getfield 19, 3) := by decide +kernel
theorem dX11_seats_27 : decode cX11_seats 27 = .ok (.aload_n 0, 1) := by decide +kernel
theorem dX11_seats_28 : decode cX11_seats 28 = .ok (.getfield 47, 3) := by decide +kernel
theorem dX11_seats_31 : decode cX11_seats 31 = .ok (.invokevirtual 247, 3) := by decide +kernel
theorem dX11_seats_34 : decode cX11_seats 34 = .ok (.iload_n 1, 1) := by decide +kernel
theorem dX11_seats_35 : decode cX11_seats 35 = .ok (.lookupswitch 41 #[(0, 25), (1, 33)], 25) := by decide +kernel
theorem dX11_seats_60 : decode cX11_seats 60 = .ok (.aload_n 0, 1) := by decide +kernel
theorem dX11_seats_61 : decode cX11_seats 61 = .ok (.getfield 54, 3) := by decide +kernel
theorem dX11_seats_64 : decode cX11_seats 64 = .ok (.getfield 251, 3) := by decide +kernel
theorem dX11_seats_67 : decode cX11_seats 67 = .ok (.ireturn, 1) := by decide +kernel
theorem dX11_seats_68 : decode cX11_seats 68 = .ok (.aload_n 0, 1) := by decide +kernel
theorem dX11_seats_69 : decode cX11_seats 69 = .ok (.getfield 54, 3) := by decide +kernel
theorem dX11_seats_72 : decode cX11_seats 72 = .ok (.getfield 254, 3) := by decide +kernel
theorem dX11_seats_75 : decode cX11_seats 75 = .ok (.ireturn, 1) := by decide +kernel
theorem dX11_seats_76 : decode cX11_seats 76 = .ok (.aload_n 0, 1) := by decide +kernel
theorem dX11_seats_77 : decode cX11_seats 77 = .ok (.getfield 54, 3) := by decide +kernel
theorem dX11_seats_80 : decode cX11_seats 80 = .ok (.getfield 257, 3) := by decide +kernel
theorem dX11_seats_83 : decode cX11_seats 83 = .ok (.ireturn, 1) := by decide +kernel
set_option maxRecDepth 100000 in
def F_X11_seats_b9  (h : Hp) : Option ((Int32 ⊕ Nat) × Hp × Nat × Nat) :=
  some (.inr 3, h, 1, 6)
set_option maxHeartbeats 4000000 in
set_option maxRecDepth 100000 in
theorem r_X11_seats_b9  (h : Hp) {x : Cx} {r : (Int32 ⊕ Nat)} {hz : Hp} {c9 s9 : Nat} (e : F_X11_seats_b9  h = some (r, hz, c9, s9)) (hF : FinO M_X11_seats x (some .int) r hz) : V M_X11_seats x 8 9 [] [] h c9 s9 := by
  unfold F_X11_seats_b9 at e
  cases e
  exact V_throwN (pc := 9) (L := 15) (j := 30) hF th_X11_182_186 rfl (by decide) (Nat.le_of_ble_eq_true rfl) dX11_seats_9 dX11_seats_12 (Or.inl ⟨dX11_seats_13, rfl⟩) dX11_seats_15 dX11_seats_18
set_option maxRecDepth 100000 in
def F_X11_seats_b0 (v0 : Nat) (v1 : Int32) (h : Hp) : Option ((Int32 ⊕ Nat) × Hp × Nat × Nat) :=
  (if v1 < 0 then F_X11_seats_b9 h else (if v1 ≤ (2 : Int32) then gd (decide (kd h v0 = 10)) <| ob (zR h v0 6) fun q2 => ob (zR h v0 1) fun q4 => ob (zR h v0 5) fun q6 => ob2 (F_X5_find q2 q4 q6 h) fun _ h10 => gd (decide (kd h q2 = 5)) <| (if v1 = (0 : Int32) then gd (decide (kd h10 v0 = 10)) <| ob (zR h10 v0 6) fun q13 => gd (decide (kd h10 q13 = 5)) <| some (.inl (zI h10 q13 1), h10, 0, 0) else if v1 = (1 : Int32) then gd (decide (kd h10 v0 = 10)) <| ob (zR h10 v0 6) fun q18 => gd (decide (kd h10 q18 = 5)) <| some (.inl (zI h10 q18 2), h10, 0, 0) else gd (decide (kd h10 v0 = 10)) <| ob (zR h10 v0 6) fun q23 => gd (decide (kd h10 q23 = 5)) <| some (.inl (zI h10 q23 3), h10, 0, 0)) else F_X11_seats_b9 h))
set_option maxHeartbeats 4000000 in
set_option maxRecDepth 100000 in
theorem r_X11_seats_b0 (v0 : Nat) (v1 : Int32) (h : Hp) {x : Cx} {r : (Int32 ⊕ Nat)} {hz : Hp} {c9 s9 : Nat} (e : F_X11_seats_b0 v0 v1 h = some (r, hz, c9, s9)) (hF : FinO M_X11_seats x (some .int) r hz) : V M_X11_seats x 8 0 [(0, .ref v0), (1, .int v1)] [] h c9 s9 := by
  unfold F_X11_seats_b0 at e
  refine V_iload_n (pc := 0) (i := 1) dX11_seats_0 rfl rfl ?_
  refine V_if_lt (pc := 1) (tgt := 9) dX11_seats_1 (by decide) (fun c27 => ?_) (fun c27 => ?_)
  · rw [if_pos c27] at e
    exact V_pick [] rfl (r_X11_seats_b9 h e hF)
  · rw [if_neg c27] at e
    refine V_pick [0, 1] rfl ?_
    refine V_iload_n (pc := 4) (i := 1) dX11_seats_4 rfl rfl ?_
    refine V_iconst (pc := 5) (v := (2 : Int32)) dX11_seats_5 (by decide) ?_
    refine V_icmp_le (pc := 6) (tgt := 19) dX11_seats_6 (by decide) (fun c26 => ?_) (fun c26 => ?_)
    · rw [if_pos c26] at e
      refine V_pick [0, 1] rfl ?_
      refine V_aload_n (pc := 19) (i := 0) dX11_seats_19 rfl rfl ?_
      replace e := gd_some e
      obtain ⟨g1, e⟩ := e
      replace e := ob_some e
      obtain ⟨q2, g3, e⟩ := e
      refine V_getR (pc := 20) (ci := 10) (k := 6) (b := q2) dX11_seats_20 fl_X11_54 rfl (of_decide_eq_true g1) g3 ?_
      refine V_aload_n (pc := 23) (i := 0) dX11_seats_23 rfl rfl ?_
      replace e := ob_some e
      obtain ⟨q4, g5, e⟩ := e
      refine V_getR (pc := 24) (ci := 10) (k := 1) (b := q4) dX11_seats_24 fl_X11_19 rfl (of_decide_eq_true g1) g5 ?_
      refine V_aload_n (pc := 27) (i := 0) dX11_seats_27 rfl rfl ?_
      replace e := ob_some e
      obtain ⟨q6, g7, e⟩ := e
      refine V_getR (pc := 28) (ci := 10) (k := 5) (b := q6) dX11_seats_28 fl_X11_47 rfl (of_decide_eq_true g1) g7 ?_
      replace e := ob2_some e
      obtain ⟨r9, h10, g8, e⟩ := e
      replace e := gd_some e
      obtain ⟨g11, e⟩ := e
      refine V_callV (pc := 31) (bc := c9) (bs := s9) (mc := 0) (ms := 0) (st := []) (As := [.ref q4, .ref q6]) (a := q2) (h' := h10) (r := none) dX11_seats_31 ml_X11_247 (ci := 5) rfl (of_decide_eq_true g11) rfl rfl (Nat.le_of_ble_eq_true rfl) (d' := 6) (by decide) (c_X5_find (l := x.2.1) q2 q4 q6 h g8) ?_
      refine V_iload_n (pc := 34) (i := 1) dX11_seats_34 rfl rfl ?_
      by_cases c16 : v1 = (0 : Int32)
      · rw [if_pos c16] at e
        refine V_lookup (pc := 35) (tgt := 60) dX11_seats_35 (by decide) (by rw [c16]; rfl) (by decide) ?_
        refine V_pick [0] rfl ?_
        refine V_aload_n (pc := 60) (i := 0) dX11_seats_60 rfl rfl ?_
        replace e := gd_some e
        obtain ⟨g12, e⟩ := e
        replace e := ob_some e
        obtain ⟨q13, g14, e⟩ := e
        refine V_getR (pc := 61) (ci := 10) (k := 6) (b := q13) dX11_seats_61 fl_X11_54 rfl (of_decide_eq_true g12) g14 ?_
        replace e := gd_some e
        obtain ⟨g15, e⟩ := e
        refine V_getI (pc := 64) (ci := 5) (k := 1) dX11_seats_64 fl_X11_251 rfl (of_decide_eq_true g15) ?_
        cases e
        exact V_iret (pc := 67) dX11_seats_67 hF
      · rw [if_neg c16] at e
        by_cases c21 : v1 = (1 : Int32)
        · rw [if_pos c21] at e
          refine V_lookup (pc := 35) (tgt := 68) dX11_seats_35 (by decide) (by rw [c21]; rfl) (by decide) ?_
          refine V_pick [0] rfl ?_
          refine V_aload_n (pc := 68) (i := 0) dX11_seats_68 rfl rfl ?_
          replace e := gd_some e
          obtain ⟨g17, e⟩ := e
          replace e := ob_some e
          obtain ⟨q18, g19, e⟩ := e
          refine V_getR (pc := 69) (ci := 10) (k := 6) (b := q18) dX11_seats_69 fl_X11_54 rfl (of_decide_eq_true g17) g19 ?_
          replace e := gd_some e
          obtain ⟨g20, e⟩ := e
          refine V_getI (pc := 72) (ci := 5) (k := 2) dX11_seats_72 fl_X11_254 rfl (of_decide_eq_true g20) ?_
          cases e
          exact V_iret (pc := 75) dX11_seats_75 hF
        · rw [if_neg c21] at e
          refine V_lookup2D (pc := 35) dX11_seats_35 ?_
          refine V_pick [0] rfl ?_
          refine V_aload_n (pc := 76) (i := 0) dX11_seats_76 rfl rfl ?_
          replace e := gd_some e
          obtain ⟨g22, e⟩ := e
          replace e := ob_some e
          obtain ⟨q23, g24, e⟩ := e
          refine V_getR (pc := 77) (ci := 10) (k := 6) (b := q23) dX11_seats_77 fl_X11_54 rfl (of_decide_eq_true g22) g24 ?_
          replace e := gd_some e
          obtain ⟨g25, e⟩ := e
          refine V_getI (pc := 80) (ci := 5) (k := 3) dX11_seats_80 fl_X11_257 rfl (of_decide_eq_true g25) ?_
          cases e
          exact V_iret (pc := 83) dX11_seats_83 hF
    · rw [if_neg c26] at e
      exact V_pick [] rfl (r_X11_seats_b9 h e hF)
def F_X11_seats (v0 : Nat) (v1 : Int32) (h : Hp) : Option ((Int32 ⊕ Nat) × Hp × Nat × Nat) := F_X11_seats_b0 v0 v1 h
theorem c_X11_seats {l : Launch} (v0 : Nat) (v1 : Int32) (h : Hp) {r : Int32} {hz : Hp} {c9 s9 : Nat} (e : F_X11_seats v0 v1 h = some (.inl r, hz, c9, s9)) : Ct l yX11_seats M_X11_seats (some .int) 8 [.ref v0, .int v1] h c9 s9 (some (.int r)) hz :=
  Ct_of rfl rfl (fun q => by cases q) (Nat.le_of_ble_eq_true rfl) (fun x _ hF => V_pick [0, 1] rfl (r_X11_seats_b0 v0 v1 h e hF))
theorem cX_X11_seats {l : Launch} (hst : l.stackTraces = false) (v0 : Nat) (v1 : Int32) (h : Hp) {k : Nat} {hz : Hp} {c9 s9 : Nat} (e : F_X11_seats v0 v1 h = some (.inr k, hz, c9, s9)) : CtX l yX11_seats M_X11_seats (some .int) 8 [.ref v0, .int v1] h c9 s9 (exN k) hz :=
  CtX_of hst rfl rfl (fun q => by cases q) (Nat.le_of_ble_eq_true rfl) (fun x _ hF => V_pick [0, 1] rfl (r_X11_seats_b0 v0 v1 h e hF))
theorem dX11_bells_0 : decode cX11_bells 0 = .ok (.iload_n 2, 1) := by decide +kernel
theorem dX11_bells_1 : decode cX11_bells 1 = .ok (.iconst (-1), 1) := by decide +kernel
theorem dX11_bells_2 : decode cX11_bells 2 = .ok (.if_icmp .lt 19, 3) := by decide +kernel
theorem dX11_bells_5 : decode cX11_bells 5 = .ok (.iload_n 1, 1) := by decide +kernel
theorem dX11_bells_6 : decode cX11_bells 6 = .ok (.iconst (-1), 1) := by decide +kernel
theorem dX11_bells_7 : decode cX11_bells 7 = .ok (.if_icmp .eq 25, 3) := by decide +kernel
theorem dX11_bells_10 : decode cX11_bells 10 = .ok (.aload_n 0, 1) := by decide +kernel
theorem dX11_bells_11 : decode cX11_bells 11 = .ok (.getfield 19, 3) := by decide +kernel
theorem dX11_bells_14 : decode cX11_bells 14 = .ok (.iload_n 1, 1) := by decide +kernel
theorem dX11_bells_15 : decode cX11_bells 15 = .ok (.invokevirtual 260, 3) := by decide +kernel
theorem dX11_bells_18 : decode cX11_bells 18 = .ok (.ifCond .ne 14, 3) := by decide +kernel
theorem dX11_bells_21 : decode cX11_bells 21 = .ok (.new 91, 3) := by decide +kernel
theorem dX11_bells_24 : decode cX11_bells 24 = .ok (.dup, 1) := by decide +kernel
theorem dX11_bells_25 : decode cX11_bells 25 = .ok (.ldc_w 263, 3) := by decide +kernel
theorem dX11_bells_28 : decode cX11_bells 28 = .ok (.invokespecial 95, 3) := by decide +kernel
theorem dX11_bells_31 : decode cX11_bells 31 = .ok (.athrow, 1) := by decide +kernel
theorem dX11_bells_32 : decode cX11_bells 32 = .ok (.iload_n 1, 1) := by decide +kernel
theorem dX11_bells_33 : decode cX11_bells 33 = .ok (.istore_n 3, 1) := by decide +kernel
theorem dX11_bells_34 : decode cX11_bells 34 = .ok (.iload_n 1, 1) := by decide +kernel
theorem dX11_bells_35 : decode cX11_bells 35 = .ok (.iconst (-1), 1) := by decide +kernel
theorem dX11_bells_36 : decode cX11_bells 36 = .ok (.if_icmp .ne 26, 3) := by decide +kernel
theorem dX11_bells_39 : decode cX11_bells 39 = .ok (.aload_n 0, 1) := by decide +kernel
theorem dX11_bells_40 : decode cX11_bells 40 = .ok (.getfield 54, 3) := by decide +kernel
theorem dX11_bells_43 : decode cX11_bells 43 = .ok (.aload_n 0, 1) := by decide +kernel
theorem dX11_bells_44 : decode cX11_bells 44 = .ok (.getfield 19, 3) := by decide +kernel
theorem dX11_bells_47 : decode cX11_bells 47 = .ok (.aload_n 0, 1) := by decide +kernel
theorem dX11_bells_48 : decode cX11_bells 48 = .ok (.getfield 47, 3) := by decide +kernel
theorem dX11_bells_51 : decode cX11_bells 51 = .ok (.invokevirtual 247, 3) := by decide +kernel
theorem dX11_bells_54 : decode cX11_bells 54 = .ok (.aload_n 0, 1) := by decide +kernel
theorem dX11_bells_55 : decode cX11_bells 55 = .ok (.getfield 54, 3) := by decide +kernel
theorem dX11_bells_58 : decode cX11_bells 58 = .ok (.getfield 251, 3) := by decide +kernel
theorem dX11_bells_61 : decode cX11_bells 61 = .ok (.istore_n 3, 1) := by decide +kernel
theorem dX11_bells_62 : decode cX11_bells 62 = .ok (.iload_n 3, 1) := by decide +kernel
theorem dX11_bells_63 : decode cX11_bells 63 = .ok (.iconst (-1), 1) := by decide +kernel
theorem dX11_bells_64 : decode cX11_bells 64 = .ok (.if_icmp .ne 5, 3) := by decide +kernel
theorem dX11_bells_67 : decode cX11_bells 67 = .ok (.iconst (-1), 1) := by decide +kernel
theorem dX11_bells_68 : decode cX11_bells 68 = .ok (.ireturn, 1) := by decide +kernel
theorem dX11_bells_69 : decode cX11_bells 69 = .ok (.aload_n 0, 1) := by decide +kernel
theorem dX11_bells_70 : decode cX11_bells 70 = .ok (.getfield 61, 3) := by decide +kernel
theorem dX11_bells_73 : decode cX11_bells 73 = .ok (.iload_n 3, 1) := by decide +kernel
theorem dX11_bells_74 : decode cX11_bells 74 = .ok (.aload_n 0, 1) := by decide +kernel
theorem dX11_bells_75 : decode cX11_bells 75 = .ok (.getfield 19, 3) := by decide +kernel
theorem dX11_bells_78 : decode cX11_bells 78 = .ok (.aload_n 0, 1) := by decide +kernel
theorem dX11_bells_79 : decode cX11_bells 79 = .ok (.getfield 47, 3) := by decide +kernel
theorem dX11_bells_82 : decode cX11_bells 82 = .ok (.invokevirtual 265, 3) := by decide +kernel
theorem dX11_bells_85 : decode cX11_bells 85 = .ok (.istore 4, 2) := by decide +kernel
theorem dX11_bells_87 : decode cX11_bells 87 = .ok (.iload_n 2, 1) := by decide +kernel
theorem dX11_bells_88 : decode cX11_bells 88 = .ok (.iconst (-1), 1) := by decide +kernel
theorem dX11_bells_89 : decode cX11_bells 89 = .ok (.if_icmp .ne 6, 3) := by decide +kernel
theorem dX11_bells_92 : decode cX11_bells 92 = .ok (.iload 4, 2) := by decide +kernel
theorem dX11_bells_94 : decode cX11_bells 94 = .ok (.ireturn, 1) := by decide +kernel
theorem dX11_bells_95 : decode cX11_bells 95 = .ok (.iload_n 2, 1) := by decide +kernel
theorem dX11_bells_96 : decode cX11_bells 96 = .ok (.iload 4, 2) := by decide +kernel
theorem dX11_bells_98 : decode cX11_bells 98 = .ok (.if_icmp .ge 18, 3) := by decide +kernel
theorem dX11_bells_101 : decode cX11_bells 101 = .ok (.aload_n 0, 1) := by decide +kernel
theorem dX11_bells_102 : decode cX11_bells 102 = .ok (.getfield 61, 3) := by decide +kernel
theorem dX11_bells_105 : decode cX11_bells 105 = .ok (.iload_n 2, 1) := by decide +kernel
theorem dX11_bells_106 : decode cX11_bells 106 = .ok (.aload_n 0, 1) := by decide +kernel
theorem dX11_bells_107 : decode cX11_bells 107 = .ok (.getfield 19, 3) := by decide +kernel
theorem dX11_bells_110 : decode cX11_bells 110 = .ok (.invokevirtual 269, 3) := by decide +kernel
theorem dX11_bells_113 : decode cX11_bells 113 = .ok (.goto 4, 3) := by decide +kernel
theorem dX11_bells_116 : decode cX11_bells 116 = .ok (.iconst (-1), 1) := by decide +kernel
theorem dX11_bells_117 : decode cX11_bells 117 = .ok (.ireturn, 1) := by decide +kernel
set_option maxRecDepth 100000 in
def F_X11_bells_b21  (h : Hp) : Option ((Int32 ⊕ Nat) × Hp × Nat × Nat) :=
  some (.inr 0, h, 1, 6)
set_option maxHeartbeats 4000000 in
set_option maxRecDepth 100000 in
theorem r_X11_bells_b21  (h : Hp) {x : Cx} {r : (Int32 ⊕ Nat)} {hz : Hp} {c9 s9 : Nat} (e : F_X11_bells_b21  h = some (r, hz, c9, s9)) (hF : FinO M_X11_bells x (some .int) r hz) : V M_X11_bells x 8 21 [] [] h c9 s9 := by
  unfold F_X11_bells_b21 at e
  cases e
  exact V_throwW (pc := 21) (j := 33) hF th_X11_91_95 rfl (by decide) (Nat.le_of_ble_eq_true rfl) dX11_bells_21 dX11_bells_24 dX11_bells_25 dX11_bells_28 dX11_bells_31
set_option maxRecDepth 100000 in
def F_X11_bells_b117 (t0 : Int32) (h : Hp) : Option ((Int32 ⊕ Nat) × Hp × Nat × Nat) :=
  some (.inl t0, h, 0, 0)
set_option maxHeartbeats 4000000 in
set_option maxRecDepth 100000 in
theorem r_X11_bells_b117 (t0 : Int32) (h : Hp) {x : Cx} {r : (Int32 ⊕ Nat)} {hz : Hp} {c9 s9 : Nat} (e : F_X11_bells_b117 t0 h = some (r, hz, c9, s9)) (hF : FinO M_X11_bells x (some .int) r hz) : V M_X11_bells x 8 117 [] [.int t0] h c9 s9 := by
  unfold F_X11_bells_b117 at e
  cases e
  exact V_iret (pc := 117) dX11_bells_117 hF
set_option maxRecDepth 100000 in
def F_X11_bells_b62 (v0 : Nat) (v2 : Int32) (v3 : Int32) (h : Hp) : Option ((Int32 ⊕ Nat) × Hp × Nat × Nat) :=
  (if v3 = (-1 : Int32) then some (.inl (-1 : Int32), h, 0, 0) else gd (decide (kd h v0 = 10)) <| ob (zR h v0 7) fun q2 => ob (zR h v0 1) fun q4 => ob (zR h v0 5) fun q6 => ob4 (F_X4_bellsTo q2 v3 q4 q6 h) fun r9 h10 n11 n12 => ac n11 n12 <| gd (decide (kd h q2 = 4)) <| (if v2 = (-1 : Int32) then some (.inl r9, h10, 0, 0) else (if r9 ≤ v2 then F_X11_bells_b117 (-1 : Int32) h10 else gd (decide (kd h10 v0 = 10)) <| ob (zR h10 v0 7) fun q17 => ob (zR h10 v0 1) fun q19 => ob (F_X4_bellAt q17 v2 q19 h10) fun r22 => gd (decide (kd h10 q17 = 4)) <| F_X11_bells_b117 r22 h10)))
set_option maxHeartbeats 4000000 in
set_option maxRecDepth 100000 in
theorem r_X11_bells_b62 (v0 : Nat) (v2 : Int32) (v3 : Int32) (h : Hp) {x : Cx} {r : (Int32 ⊕ Nat)} {hz : Hp} {c9 s9 : Nat} (e : F_X11_bells_b62 v0 v2 v3 h = some (r, hz, c9, s9)) (hF : FinO M_X11_bells x (some .int) r hz) : V M_X11_bells x 8 62 [(0, .ref v0), (2, .int v2), (3, .int v3)] [] h c9 s9 := by
  unfold F_X11_bells_b62 at e
  refine V_iload_n (pc := 62) (i := 3) dX11_bells_62 rfl rfl ?_
  refine V_iconst (pc := 63) (v := (-1 : Int32)) dX11_bells_63 (by decide) ?_
  refine V_icmp_ne (pc := 64) (tgt := 69) dX11_bells_64 (by decide) (fun c26 => ?_) (fun c26 => ?_)
  · rw [if_neg c26] at e
    refine V_pick [0, 1, 2] rfl ?_
    refine V_aload_n (pc := 69) (i := 0) dX11_bells_69 rfl rfl ?_
    replace e := gd_some e
    obtain ⟨g1, e⟩ := e
    replace e := ob_some e
    obtain ⟨q2, g3, e⟩ := e
    refine V_getR (pc := 70) (ci := 10) (k := 7) (b := q2) dX11_bells_70 fl_X11_61 rfl (of_decide_eq_true g1) g3 ?_
    refine V_iload_n (pc := 73) (i := 3) dX11_bells_73 rfl rfl ?_
    refine V_aload_n (pc := 74) (i := 0) dX11_bells_74 rfl rfl ?_
    replace e := ob_some e
    obtain ⟨q4, g5, e⟩ := e
    refine V_getR (pc := 75) (ci := 10) (k := 1) (b := q4) dX11_bells_75 fl_X11_19 rfl (of_decide_eq_true g1) g5 ?_
    refine V_aload_n (pc := 78) (i := 0) dX11_bells_78 rfl rfl ?_
    replace e := ob_some e
    obtain ⟨q6, g7, e⟩ := e
    refine V_getR (pc := 79) (ci := 10) (k := 5) (b := q6) dX11_bells_79 fl_X11_47 rfl (of_decide_eq_true g1) g7 ?_
    replace e := ob4_some e
    obtain ⟨r9, h10, n11, n12, g8, e⟩ := e
    replace e := ac_some e
    obtain ⟨n13, n14, e, hc9, hs9⟩ := e
    rw [hc9, hs9]
    clear hc9 hs9
    replace e := gd_some e
    obtain ⟨g15, e⟩ := e
    refine V_callV (pc := 82) (bc := n13) (bs := n14) (mc := n11) (ms := n12) (st := []) (As := [.int v3, .ref q4, .ref q6]) (a := q2) (h' := h10) (r := some (.int r9)) dX11_bells_82 ml_X11_265 (ci := 4) rfl (of_decide_eq_true g15) rfl rfl (Nat.le_of_ble_eq_true rfl) (d' := 3) (by decide) (c_X4_bellsTo (l := x.2.1) q2 v3 q4 q6 h g8) ?_
    refine V_istore (pc := 85) (i := 4) (lv' := [(4, .int r9), (0, .ref v0), (2, .int v2), (3, .int v3)]) dX11_bells_85 (by decide) rfl ?_
    refine V_iload_n (pc := 87) (i := 2) dX11_bells_87 rfl rfl ?_
    refine V_iconst (pc := 88) (v := (-1 : Int32)) dX11_bells_88 (by decide) ?_
    refine V_icmp_ne (pc := 89) (tgt := 95) dX11_bells_89 (by decide) (fun c25 => ?_) (fun c25 => ?_)
    · rw [if_neg c25] at e
      refine V_pick [1, 2, 0] rfl ?_
      refine V_iload_n (pc := 95) (i := 2) dX11_bells_95 rfl rfl ?_
      refine V_iload (pc := 96) (i := 4) dX11_bells_96 rfl ?_
      refine V_icmp_ge (pc := 98) (tgt := 116) dX11_bells_98 (by decide) (fun c24 => ?_) (fun c24 => ?_)
      · rw [if_pos c24] at e
        refine V_pick [] rfl ?_
        refine V_iconst (pc := 116) (v := (-1 : Int32)) dX11_bells_116 (by decide) ?_
        exact V_pick [] rfl (r_X11_bells_b117 (-1 : Int32) h10 e hF)
      · rw [if_neg c24] at e
        refine V_pick [0, 1] rfl ?_
        refine V_aload_n (pc := 101) (i := 0) dX11_bells_101 rfl rfl ?_
        replace e := gd_some e
        obtain ⟨g16, e⟩ := e
        replace e := ob_some e
        obtain ⟨q17, g18, e⟩ := e
        refine V_getR (pc := 102) (ci := 10) (k := 7) (b := q17) dX11_bells_102 fl_X11_61 rfl (of_decide_eq_true g16) g18 ?_
        refine V_iload_n (pc := 105) (i := 2) dX11_bells_105 rfl rfl ?_
        refine V_aload_n (pc := 106) (i := 0) dX11_bells_106 rfl rfl ?_
        replace e := ob_some e
        obtain ⟨q19, g20, e⟩ := e
        refine V_getR (pc := 107) (ci := 10) (k := 1) (b := q19) dX11_bells_107 fl_X11_19 rfl (of_decide_eq_true g16) g20 ?_
        replace e := ob_some e
        obtain ⟨r22, g21, e⟩ := e
        replace e := gd_some e
        obtain ⟨g23, e⟩ := e
        refine V_callV (pc := 110) (bc := n13) (bs := n14) (mc := 0) (ms := 0) (st := []) (As := [.int v2, .ref q19]) (a := q17) (h' := h10) (r := some (.int r22)) dX11_bells_110 ml_X11_269 (ci := 4) rfl (of_decide_eq_true g23) rfl rfl (Nat.le_of_ble_eq_true rfl) (d' := 2) (by decide) (c_X4_bellAt (l := x.2.1) q17 v2 q19 h10 g21) ?_
        refine V_goto (pc := 113) (tgt := 117) dX11_bells_113 (by decide) ?_
        exact V_pick [] rfl (r_X11_bells_b117 r22 h10 e hF)
    · rw [if_pos c25] at e
      refine V_pick [0] rfl ?_
      refine V_iload (pc := 92) (i := 4) dX11_bells_92 rfl ?_
      cases e
      exact V_iret (pc := 94) dX11_bells_94 hF
  · rw [if_pos c26] at e
    refine V_pick [] rfl ?_
    refine V_iconst (pc := 67) (v := (-1 : Int32)) dX11_bells_67 (by decide) ?_
    cases e
    exact V_iret (pc := 68) dX11_bells_68 hF
set_option maxRecDepth 100000 in
def F_X11_bells_b32 (v0 : Nat) (v1 : Int32) (v2 : Int32) (h : Hp) : Option ((Int32 ⊕ Nat) × Hp × Nat × Nat) :=
  (if v1 = (-1 : Int32) then gd (decide (kd h v0 = 10)) <| ob (zR h v0 6) fun q28 => ob (zR h v0 1) fun q30 => ob (zR h v0 5) fun q32 => ob2 (F_X5_find q28 q30 q32 h) fun _ h36 => gd (decide (kd h q28 = 5)) <| gd (decide (kd h36 v0 = 10)) <| ob (zR h36 v0 6) fun q39 => gd (decide (kd h36 q39 = 5)) <| F_X11_bells_b62 v0 v2 (zI h36 q39 1) h36 else F_X11_bells_b62 v0 v2 v1 h)
set_option maxHeartbeats 4000000 in
set_option maxRecDepth 100000 in
theorem r_X11_bells_b32 (v0 : Nat) (v1 : Int32) (v2 : Int32) (h : Hp) {x : Cx} {r : (Int32 ⊕ Nat)} {hz : Hp} {c9 s9 : Nat} (e : F_X11_bells_b32 v0 v1 v2 h = some (r, hz, c9, s9)) (hF : FinO M_X11_bells x (some .int) r hz) : V M_X11_bells x 8 32 [(0, .ref v0), (1, .int v1), (2, .int v2)] [] h c9 s9 := by
  unfold F_X11_bells_b32 at e
  refine V_iload_n (pc := 32) (i := 1) dX11_bells_32 rfl rfl ?_
  refine V_istore_n (pc := 33) (i := 3) (lv' := [(3, .int v1), (0, .ref v0), (1, .int v1), (2, .int v2)]) dX11_bells_33 rfl (by decide) rfl ?_
  refine V_iload_n (pc := 34) (i := 1) dX11_bells_34 rfl rfl ?_
  refine V_iconst (pc := 35) (v := (-1 : Int32)) dX11_bells_35 (by decide) ?_
  refine V_icmp_ne (pc := 36) (tgt := 62) dX11_bells_36 (by decide) (fun c42 => ?_) (fun c42 => ?_)
  · rw [if_neg c42] at e
    exact V_pick [1, 3, 0] rfl (r_X11_bells_b62 v0 v2 v1 h e hF)
  · rw [if_pos c42] at e
    refine V_pick [1, 3] rfl ?_
    refine V_aload_n (pc := 39) (i := 0) dX11_bells_39 rfl rfl ?_
    replace e := gd_some e
    obtain ⟨g27, e⟩ := e
    replace e := ob_some e
    obtain ⟨q28, g29, e⟩ := e
    refine V_getR (pc := 40) (ci := 10) (k := 6) (b := q28) dX11_bells_40 fl_X11_54 rfl (of_decide_eq_true g27) g29 ?_
    refine V_aload_n (pc := 43) (i := 0) dX11_bells_43 rfl rfl ?_
    replace e := ob_some e
    obtain ⟨q30, g31, e⟩ := e
    refine V_getR (pc := 44) (ci := 10) (k := 1) (b := q30) dX11_bells_44 fl_X11_19 rfl (of_decide_eq_true g27) g31 ?_
    refine V_aload_n (pc := 47) (i := 0) dX11_bells_47 rfl rfl ?_
    replace e := ob_some e
    obtain ⟨q32, g33, e⟩ := e
    refine V_getR (pc := 48) (ci := 10) (k := 5) (b := q32) dX11_bells_48 fl_X11_47 rfl (of_decide_eq_true g27) g33 ?_
    replace e := ob2_some e
    obtain ⟨r35, h36, g34, e⟩ := e
    replace e := gd_some e
    obtain ⟨g37, e⟩ := e
    refine V_callV (pc := 51) (bc := c9) (bs := s9) (mc := 0) (ms := 0) (st := []) (As := [.ref q30, .ref q32]) (a := q28) (h' := h36) (r := none) dX11_bells_51 ml_X11_247 (ci := 5) rfl (of_decide_eq_true g37) rfl rfl (Nat.le_of_ble_eq_true rfl) (d' := 6) (by decide) (c_X5_find (l := x.2.1) q28 q30 q32 h g34) ?_
    refine V_aload_n (pc := 54) (i := 0) dX11_bells_54 rfl rfl ?_
    replace e := gd_some e
    obtain ⟨g38, e⟩ := e
    replace e := ob_some e
    obtain ⟨q39, g40, e⟩ := e
    refine V_getR (pc := 55) (ci := 10) (k := 6) (b := q39) dX11_bells_55 fl_X11_54 rfl (of_decide_eq_true g38) g40 ?_
    replace e := gd_some e
    obtain ⟨g41, e⟩ := e
    refine V_getI (pc := 58) (ci := 5) (k := 1) dX11_bells_58 fl_X11_251 rfl (of_decide_eq_true g41) ?_
    refine V_istore_n (pc := 61) (i := 3) (lv' := [(3, .int (zI h36 q39 1)), (0, .ref v0), (2, .int v2)]) dX11_bells_61 rfl (by decide) rfl ?_
    exact V_pick [1, 2, 0] rfl (r_X11_bells_b62 v0 v2 (zI h36 q39 1) h36 e hF)
set_option maxRecDepth 100000 in
def F_X11_bells_b0 (v0 : Nat) (v1 : Int32) (v2 : Int32) (h : Hp) : Option ((Int32 ⊕ Nat) × Hp × Nat × Nat) :=
  (if v2 < (-1 : Int32) then F_X11_bells_b21 h else (if v1 = (-1 : Int32) then F_X11_bells_b32 v0 v1 v2 h else gd (decide (kd h v0 = 10)) <| ob (zR h v0 1) fun q44 => ob (F_X2_isSeating q44 v1 h) fun r47 => gd (decide (kd h q44 = 2)) <| (if r47 = 0 then F_X11_bells_b21 h else F_X11_bells_b32 v0 v1 v2 h)))
set_option maxHeartbeats 4000000 in
set_option maxRecDepth 100000 in
theorem r_X11_bells_b0 (v0 : Nat) (v1 : Int32) (v2 : Int32) (h : Hp) {x : Cx} {r : (Int32 ⊕ Nat)} {hz : Hp} {c9 s9 : Nat} (e : F_X11_bells_b0 v0 v1 v2 h = some (r, hz, c9, s9)) (hF : FinO M_X11_bells x (some .int) r hz) : V M_X11_bells x 8 0 [(0, .ref v0), (1, .int v1), (2, .int v2)] [] h c9 s9 := by
  unfold F_X11_bells_b0 at e
  refine V_iload_n (pc := 0) (i := 2) dX11_bells_0 rfl rfl ?_
  refine V_iconst (pc := 1) (v := (-1 : Int32)) dX11_bells_1 (by decide) ?_
  refine V_icmp_lt (pc := 2) (tgt := 21) dX11_bells_2 (by decide) (fun c51 => ?_) (fun c51 => ?_)
  · rw [if_pos c51] at e
    exact V_pick [] rfl (r_X11_bells_b21 h e hF)
  · rw [if_neg c51] at e
    refine V_pick [0, 1, 2] rfl ?_
    refine V_iload_n (pc := 5) (i := 1) dX11_bells_5 rfl rfl ?_
    refine V_iconst (pc := 6) (v := (-1 : Int32)) dX11_bells_6 (by decide) ?_
    refine V_icmp_eq (pc := 7) (tgt := 32) dX11_bells_7 (by decide) (fun c50 => ?_) (fun c50 => ?_)
    · rw [if_pos c50] at e
      exact V_pick [0, 1, 2] rfl (r_X11_bells_b32 v0 v1 v2 h e hF)
    · rw [if_neg c50] at e
      refine V_pick [0, 1, 2] rfl ?_
      refine V_aload_n (pc := 10) (i := 0) dX11_bells_10 rfl rfl ?_
      replace e := gd_some e
      obtain ⟨g43, e⟩ := e
      replace e := ob_some e
      obtain ⟨q44, g45, e⟩ := e
      refine V_getR (pc := 11) (ci := 10) (k := 1) (b := q44) dX11_bells_11 fl_X11_19 rfl (of_decide_eq_true g43) g45 ?_
      refine V_iload_n (pc := 14) (i := 1) dX11_bells_14 rfl rfl ?_
      replace e := ob_some e
      obtain ⟨r47, g46, e⟩ := e
      replace e := gd_some e
      obtain ⟨g48, e⟩ := e
      refine V_callV (pc := 15) (bc := c9) (bs := s9) (mc := 0) (ms := 0) (st := []) (As := [.int v1]) (a := q44) (h' := h) (r := some (.int r47)) dX11_bells_15 ml_X11_260 (ci := 2) rfl (of_decide_eq_true g48) rfl rfl (Nat.le_of_ble_eq_true rfl) (d' := 1) (by decide) (c_X2_isSeating (l := x.2.1) q44 v1 h g46) ?_
      refine V_if_ne (pc := 18) (tgt := 32) dX11_bells_18 (by decide) (fun c49 => ?_) (fun c49 => ?_)
      · rw [if_neg c49] at e
        exact V_pick [0, 1, 2] rfl (r_X11_bells_b32 v0 v1 v2 h e hF)
      · rw [if_pos c49] at e
        exact V_pick [] rfl (r_X11_bells_b21 h e hF)
def F_X11_bells (v0 : Nat) (v1 : Int32) (v2 : Int32) (h : Hp) : Option ((Int32 ⊕ Nat) × Hp × Nat × Nat) := F_X11_bells_b0 v0 v1 v2 h
theorem c_X11_bells {l : Launch} (v0 : Nat) (v1 : Int32) (v2 : Int32) (h : Hp) {r : Int32} {hz : Hp} {c9 s9 : Nat} (e : F_X11_bells v0 v1 v2 h = some (.inl r, hz, c9, s9)) : Ct l yX11_bells M_X11_bells (some .int) 8 [.ref v0, .int v1, .int v2] h c9 s9 (some (.int r)) hz :=
  Ct_of rfl rfl (fun q => by cases q) (Nat.le_of_ble_eq_true rfl) (fun x _ hF => V_pick [0, 1, 2] rfl (r_X11_bells_b0 v0 v1 v2 h e hF))
theorem cX_X11_bells {l : Launch} (hst : l.stackTraces = false) (v0 : Nat) (v1 : Int32) (v2 : Int32) (h : Hp) {k : Nat} {hz : Hp} {c9 s9 : Nat} (e : F_X11_bells v0 v1 v2 h = some (.inr k, hz, c9, s9)) : CtX l yX11_bells M_X11_bells (some .int) 8 [.ref v0, .int v1, .int v2] h c9 s9 (exN k) hz :=
  CtX_of hst rfl rfl (fun q => by cases q) (Nat.le_of_ble_eq_true rfl) (fun x _ hF => V_pick [0, 1, 2] rfl (r_X11_bells_b0 v0 v1 v2 h e hF))

theorem dX12_metByAll_0 : decode cX12_metByAll 0 = .ok (.iconst 0, 1) := by decide +kernel
theorem dX12_metByAll_1 : decode cX12_metByAll 1 = .ok (.istore_n 1, 1) := by decide +kernel
theorem dX12_metByAll_2 : decode cX12_metByAll 2 = .ok (.iconst 0, 1) := by decide +kernel
theorem dX12_metByAll_3 : decode cX12_metByAll 3 = .ok (.istore_n 2, 1) := by decide +kernel
theorem dX12_metByAll_4 : decode cX12_metByAll 4 = .ok (.iload_n 2, 1) := by decide +kernel
theorem dX12_metByAll_5 : decode cX12_metByAll 5 = .ok (.aload_n 0, 1) := by decide +kernel
theorem dX12_metByAll_6 : decode cX12_metByAll 6 = .ok (.invokevirtual 68, 3) := by decide +kernel
theorem dX12_metByAll_9 : decode cX12_metByAll 9 = .ok (.if_icmp .ge 17, 3) := by decide +kernel
theorem dX12_metByAll_12 : decode cX12_metByAll 12 = .ok (.iload_n 1, 1) := by decide +kernel
theorem dX12_metByAll_13 : decode cX12_metByAll 13 = .ok (.aload_n 0, 1) := by decide +kernel
theorem dX12_metByAll_14 : decode cX12_metByAll 14 = .ok (.iload_n 2, 1) := by decide +kernel
theorem dX12_metByAll_15 : decode cX12_metByAll 15 = .ok (.invokevirtual 309, 3) := by decide +kernel
theorem dX12_metByAll_18 : decode cX12_metByAll 18 = .ok (.iadd, 1) := by decide +kernel
theorem dX12_metByAll_19 : decode cX12_metByAll 19 = .ok (.istore_n 1, 1) := by decide +kernel
theorem dX12_metByAll_20 : decode cX12_metByAll 20 = .ok (.iinc 2 1, 3) := by decide +kernel
theorem dX12_metByAll_23 : decode cX12_metByAll 23 = .ok (.goto (-19), 3) := by decide +kernel
theorem dX12_metByAll_26 : decode cX12_metByAll 26 = .ok (.iload_n 1, 1) := by decide +kernel
theorem dX12_metByAll_27 : decode cX12_metByAll 27 = .ok (.ireturn, 1) := by decide +kernel
set_option maxRecDepth 100000 in
def F_X12_metByAll_l4 (v0 : Nat) (v1 : Int32) (v2 : Int32) (h : Hp) : Option ((Int32 × Int32 × Hp) ⊕ (Int32 × Hp)) :=
  ob (F_X12_guests v0 h) fun r2 => gd (decide (kd h v0 = 11)) <| (if r2 ≤ v2 then some (.inr (v1, h)) else ob2 (F_X12_metBy v0 v2 h) fun r5 h6 => some (.inl (v1 + r5, v2 + (1 : Int32), h6)))
set_option maxHeartbeats 4000000 in
set_option maxRecDepth 100000 in
theorem r_X12_metByAll_l4 (v0 : Nat) (v1 : Int32) (v2 : Int32) (h : Hp) {x : Cx} {o : ((Int32 × Int32 × Hp) ⊕ (Int32 × Hp))} (e : F_X12_metByAll_l4 v0 v1 v2 h = some o) (kI : ∀ z, o = .inl z → V M_X12_metByAll x 5 4 [(0, .ref v0), (1, .int z.1), (2, .int z.2.1)] [] z.2.2 0 0) (kE26 : ∀ z : Int32 × Hp, o = .inr z → V M_X12_metByAll x 5 26 [(1, .int z.1)] [] z.2 0 0) : V M_X12_metByAll x 5 4 [(0, .ref v0), (1, .int v1), (2, .int v2)] [] h 0 0 := by
  unfold F_X12_metByAll_l4 at e
  refine V_iload_n (pc := 4) (i := 2) dX12_metByAll_4 rfl rfl ?_
  refine V_aload_n (pc := 5) (i := 0) dX12_metByAll_5 rfl rfl ?_
  obtain ⟨r2, g1, e⟩ := ob_some e
  obtain ⟨g3, e⟩ := gd_some e
  refine V_callV (pc := 6) (bc := 0) (bs := 0) (mc := 0) (ms := 0) (st := [.int v2]) (As := []) (a := v0) (h' := h) (r := some (.int r2)) dX12_metByAll_6 ml_X12_68 (ci := 11) rfl (of_decide_eq_true g3) rfl rfl (Nat.le_of_ble_eq_true rfl) (d' := 0) (by decide) (c_X12_guests (l := x.2.1) v0 h g1) ?_
  refine V_icmp_ge (pc := 9) (tgt := 26) dX12_metByAll_9 (by decide) (fun c7 => ?_) (fun c7 => ?_)
  · rw [if_pos c7] at e
    cases e
    exact V_pick [1] rfl (kE26 (v1, h) rfl)
  · rw [if_neg c7] at e
    refine V_pick [0, 1, 2] rfl ?_
    refine V_iload_n (pc := 12) (i := 1) dX12_metByAll_12 rfl rfl ?_
    refine V_aload_n (pc := 13) (i := 0) dX12_metByAll_13 rfl rfl ?_
    refine V_iload_n (pc := 14) (i := 2) dX12_metByAll_14 rfl rfl ?_
    obtain ⟨r5, h6, g4, e⟩ := ob2_some e
    refine V_callV (pc := 15) (bc := 0) (bs := 0) (mc := 0) (ms := 0) (st := [.int v1]) (As := [.int v2]) (a := v0) (h' := h6) (r := some (.int r5)) dX12_metByAll_15 ml_X12_309 (ci := 11) rfl (of_decide_eq_true g3) rfl rfl (Nat.le_of_ble_eq_true rfl) (d' := 4) (by decide) (c_X12_metBy (l := x.2.1) v0 v2 h g4) ?_
    refine V_iadd (pc := 18) dX12_metByAll_18 ?_
    refine V_istore_n (pc := 19) (i := 1) (lv' := [(1, .int (v1 + r5)), (0, .ref v0), (2, .int v2)]) dX12_metByAll_19 rfl (by decide) rfl ?_
    refine V_iinc (pc := 20) (i := 2) (u := v2 + (1 : Int32)) (lv' := [(2, .int (v2 + (1 : Int32))), (1, .int (v1 + r5)), (0, .ref v0)]) dX12_metByAll_20 rfl rfl (by decide) rfl ?_
    refine V_goto (pc := 23) (tgt := 4) dX12_metByAll_23 (by decide) ?_
    cases e
    exact V_pick [2, 1, 0] rfl (kI (v1 + r5, v2 + (1 : Int32), h6) rfl)
set_option maxRecDepth 100000 in
def F_X12_metByAll_b0 (v0 : Nat) (h : Hp) : Option (Int32 × Hp) :=
  ob (iter (fun z : Int32 × Int32 × Hp => F_X12_metByAll_l4 v0 z.1 z.2.1 z.2.2) FU ((0 : Int32), (0 : Int32), h)) (fun z => un2 z fun w8 h9 => some (w8, h9))
set_option maxHeartbeats 4000000 in
set_option maxRecDepth 100000 in
theorem r_X12_metByAll_b0 (v0 : Nat) (h : Hp) {x : Cx} {r : Int32} {hz : Hp} (e : F_X12_metByAll_b0 v0 h = some (r, hz)) (hF : Fin9 M_X12_metByAll x (some .int) (some (.int r)) hz) : V M_X12_metByAll x 5 0 [(0, .ref v0)] [] h 0 0 := by
  unfold F_X12_metByAll_b0 at e
  refine V_iconst (pc := 0) (v := (0 : Int32)) dX12_metByAll_0 (by decide) ?_
  refine V_istore_n (pc := 1) (i := 1) (lv' := [(1, .int (0 : Int32)), (0, .ref v0)]) dX12_metByAll_1 rfl (by decide) rfl ?_
  refine V_iconst (pc := 2) (v := (0 : Int32)) dX12_metByAll_2 (by decide) ?_
  refine V_istore_n (pc := 3) (i := 2) (lv' := [(2, .int (0 : Int32)), (1, .int (0 : Int32)), (0, .ref v0)]) dX12_metByAll_3 rfl (by decide) rfl ?_
  refine V_pick [2, 1, 0] rfl ?_
  obtain ⟨y10, g11, e⟩ := ob_some e
  refine iter_V (P := fun z : Int32 × Int32 × Hp => V M_X12_metByAll x 5 4 [(0, .ref v0), (1, .int z.1), (2, .int z.2.1)] [] z.2.2 0 0) (E := fun z : Int32 × Hp => V M_X12_metByAll x 5 26 [(1, .int z.1)] [] z.2 0 0) (fun z o e9 k1 k2 => r_X12_metByAll_l4 v0 z.1 z.2.1 z.2.2 e9 (fun z hz9 => k1 z hz9) (fun z hz9 => k2 _ hz9)) _ _ _ g11 ?_
  clear g11
  obtain ⟨w8, h9⟩ := y10
  replace e : (some (w8, h9)) = some (r, hz) := e
  show V M_X12_metByAll x 5 26 [(1, .int w8)] [] h9 0 0
  refine V_iload_n (pc := 26) (i := 1) dX12_metByAll_26 rfl rfl ?_
  cases e
  exact V_iret (pc := 27) dX12_metByAll_27 hF
def F_X12_metByAll (v0 : Nat) (h : Hp) : Option (Int32 × Hp) := F_X12_metByAll_b0 v0 h
theorem c_X12_metByAll {l : Launch} (v0 : Nat) (h : Hp) {r : Int32} {hz : Hp} (e : F_X12_metByAll v0 h = some (r, hz)) : Ct l yX12_metByAll M_X12_metByAll (some .int) 5 [.ref v0] h 0 0 (some (.int r)) hz :=
  Ct_of rfl rfl (fun q => by cases q) (Nat.le_of_ble_eq_true rfl) (fun x _ hF => V_pick [0] rfl (r_X12_metByAll_b0 v0 h e hF))
theorem dX12_met_0 : decode cX12_met 0 = .ok (.aload_n 0, 1) := by decide +kernel
theorem dX12_met_1 : decode cX12_met 1 = .ok (.iconst 0, 1) := by decide +kernel
theorem dX12_met_2 : decode cX12_met 2 = .ok (.putfield 3, 3) := by decide +kernel
theorem dX12_met_5 : decode cX12_met 5 = .ok (.aload_n 0, 1) := by decide +kernel
theorem dX12_met_6 : decode cX12_met 6 = .ok (.iload_n 1, 1) := by decide +kernel
theorem dX12_met_7 : decode cX12_met 7 = .ok (.iconst (-1), 1) := by decide +kernel
theorem dX12_met_8 : decode cX12_met 8 = .ok (.if_icmp .eq 15, 3) := by decide +kernel
theorem dX12_met_11 : decode cX12_met 11 = .ok (.aload_n 0, 1) := by decide +kernel
theorem dX12_met_12 : decode cX12_met 12 = .ok (.iload_n 1, 1) := by decide +kernel
theorem dX12_met_13 : decode cX12_met 13 = .ok (.invokevirtual 244, 3) := by decide +kernel
theorem dX12_met_16 : decode cX12_met 16 = .ok (.ifCond .eq 7, 3) := by decide +kernel
theorem dX12_met_19 : decode cX12_met 19 = .ok (.iconst 1, 1) := by decide +kernel
theorem dX12_met_20 : decode cX12_met 20 = .ok (.goto 4, 3) := by decide +kernel
theorem dX12_met_23 : decode cX12_met 23 = .ok (.iconst 0, 1) := by decide +kernel
theorem dX12_met_24 : decode cX12_met 24 = .ok (.iconst 1, 1) := by decide +kernel
theorem dX12_met_25 : decode cX12_met 25 = .ok (.invokevirtual 240, 3) := by decide +kernel
theorem dX12_met_28 : decode cX12_met 28 = .ok (.ifCond .eq 5, 3) := by decide +kernel
theorem dX12_met_31 : decode cX12_met 31 = .ok (.iconst 0, 1) := by decide +kernel
theorem dX12_met_32 : decode cX12_met 32 = .ok (.ireturn, 1) := by decide +kernel
theorem dX12_met_33 : decode cX12_met 33 = .ok (.aload_n 0, 1) := by decide +kernel
theorem dX12_met_34 : decode cX12_met 34 = .ok (.invokevirtual 290, 3) := by decide +kernel
theorem dX12_met_37 : decode cX12_met 37 = .ok (.iload_n 1, 1) := by decide +kernel
theorem dX12_met_38 : decode cX12_met 38 = .ok (.iconst (-1), 1) := by decide +kernel
theorem dX12_met_39 : decode cX12_met 39 = .ok (.if_icmp .ne 10, 3) := by decide +kernel
theorem dX12_met_42 : decode cX12_met 42 = .ok (.aload_n 0, 1) := by decide +kernel
theorem dX12_met_43 : decode cX12_met 43 = .ok (.invokevirtual 312, 3) := by decide +kernel
theorem dX12_met_46 : decode cX12_met 46 = .ok (.goto 8, 3) := by decide +kernel
theorem dX12_met_49 : decode cX12_met 49 = .ok (.aload_n 0, 1) := by decide +kernel
theorem dX12_met_50 : decode cX12_met 50 = .ok (.iload_n 1, 1) := by decide +kernel
theorem dX12_met_51 : decode cX12_met 51 = .ok (.invokevirtual 309, 3) := by decide +kernel
theorem dX12_met_54 : decode cX12_met 54 = .ok (.ireturn, 1) := by decide +kernel
set_option maxRecDepth 100000 in
def F_X12_met_b54 (t0 : Int32) (h : Hp) : Option (Int32 × Hp) :=
  some (t0, h)
set_option maxHeartbeats 4000000 in
set_option maxRecDepth 100000 in
theorem r_X12_met_b54 (t0 : Int32) (h : Hp) {x : Cx} {r : Int32} {hz : Hp} (e : F_X12_met_b54 t0 h = some (r, hz)) (hF : Fin9 M_X12_met x (some .int) (some (.int r)) hz) : V M_X12_met x 6 54 [] [.int t0] h 0 0 := by
  unfold F_X12_met_b54 at e
  cases e
  exact V_iret (pc := 54) dX12_met_54 hF
set_option maxRecDepth 100000 in
def F_X12_met_b24 (v0 : Nat) (v1 : Int32) (t0 : Nat) (t1 : Int32) (h : Hp) : Option (Int32 × Hp) :=
  ob2 (F_X12_throwsIf t0 t1 (1 : Int32) h) fun r3 h4 => gd (decide (kd h t0 = 11)) <| (if r3 = 0 then ob2 (F_X12_sits v0 h4) fun _ h8 => gd (decide (kd h4 v0 = 11)) <| (if v1 = (-1 : Int32) then ob2 (F_X12_metByAll v0 h8) fun r15 h16 => gd (decide (kd h8 v0 = 11)) <| F_X12_met_b54 r15 h16 else ob2 (F_X12_metBy v0 v1 h8) fun r11 h12 => gd (decide (kd h8 v0 = 11)) <| F_X12_met_b54 r11 h12) else some ((0 : Int32), h4))
set_option maxHeartbeats 4000000 in
set_option maxRecDepth 100000 in
theorem r_X12_met_b24 (v0 : Nat) (v1 : Int32) (t0 : Nat) (t1 : Int32) (h : Hp) {x : Cx} {r : Int32} {hz : Hp} (e : F_X12_met_b24 v0 v1 t0 t1 h = some (r, hz)) (hF : Fin9 M_X12_met x (some .int) (some (.int r)) hz) : V M_X12_met x 6 24 [(0, .ref v0), (1, .int v1)] [.int t1, .ref t0] h 0 0 := by
  unfold F_X12_met_b24 at e
  refine V_iconst (pc := 24) (v := (1 : Int32)) dX12_met_24 (by decide) ?_
  obtain ⟨r3, h4, g2, e⟩ := ob2_some e
  obtain ⟨g5, e⟩ := gd_some e
  refine V_callV (pc := 25) (bc := 0) (bs := 0) (mc := 0) (ms := 0) (st := []) (As := [.int t1, .int (1 : Int32)]) (a := t0) (h' := h4) (r := some (.int r3)) dX12_met_25 ml_X12_240 (ci := 11) rfl (of_decide_eq_true g5) rfl rfl (Nat.le_of_ble_eq_true rfl) (d' := 0) (by decide) (c_X12_throwsIf (l := x.2.1) t0 t1 (1 : Int32) h g2) ?_
  refine V_if_eq (pc := 28) (tgt := 33) dX12_met_28 (by decide) (fun c19 => ?_) (fun c19 => ?_)
  · rw [if_pos c19] at e
    refine V_pick [0, 1] rfl ?_
    refine V_aload_n (pc := 33) (i := 0) dX12_met_33 rfl rfl ?_
    obtain ⟨r7, h8, g6, e⟩ := ob2_some e
    obtain ⟨g9, e⟩ := gd_some e
    refine V_callV (pc := 34) (bc := 0) (bs := 0) (mc := 0) (ms := 0) (st := []) (As := []) (a := v0) (h' := h8) (r := none) dX12_met_34 ml_X12_290 (ci := 11) rfl (of_decide_eq_true g9) rfl rfl (Nat.le_of_ble_eq_true rfl) (d' := 1) (by decide) (c_X12_sits (l := x.2.1) v0 h4 g6) ?_
    refine V_iload_n (pc := 37) (i := 1) dX12_met_37 rfl rfl ?_
    refine V_iconst (pc := 38) (v := (-1 : Int32)) dX12_met_38 (by decide) ?_
    refine V_icmp_ne (pc := 39) (tgt := 49) dX12_met_39 (by decide) (fun c18 => ?_) (fun c18 => ?_)
    · rw [if_neg c18] at e
      refine V_pick [0, 1] rfl ?_
      refine V_aload_n (pc := 49) (i := 0) dX12_met_49 rfl rfl ?_
      refine V_iload_n (pc := 50) (i := 1) dX12_met_50 rfl rfl ?_
      obtain ⟨r11, h12, g10, e⟩ := ob2_some e
      obtain ⟨g13, e⟩ := gd_some e
      refine V_callV (pc := 51) (bc := 0) (bs := 0) (mc := 0) (ms := 0) (st := []) (As := [.int v1]) (a := v0) (h' := h12) (r := some (.int r11)) dX12_met_51 ml_X12_309 (ci := 11) rfl (of_decide_eq_true g13) rfl rfl (Nat.le_of_ble_eq_true rfl) (d' := 4) (by decide) (c_X12_metBy (l := x.2.1) v0 v1 h8 g10) ?_
      exact V_pick [] rfl (r_X12_met_b54 r11 h12 e hF)
    · rw [if_pos c18] at e
      refine V_pick [0] rfl ?_
      refine V_aload_n (pc := 42) (i := 0) dX12_met_42 rfl rfl ?_
      obtain ⟨r15, h16, g14, e⟩ := ob2_some e
      obtain ⟨g17, e⟩ := gd_some e
      refine V_callV (pc := 43) (bc := 0) (bs := 0) (mc := 0) (ms := 0) (st := []) (As := []) (a := v0) (h' := h16) (r := some (.int r15)) dX12_met_43 ml_X12_312 (ci := 11) rfl (of_decide_eq_true g17) rfl rfl (Nat.le_of_ble_eq_true rfl) (d' := 5) (by decide) (c_X12_metByAll (l := x.2.1) v0 h8 g14) ?_
      refine V_goto (pc := 46) (tgt := 54) dX12_met_46 (by decide) ?_
      exact V_pick [] rfl (r_X12_met_b54 r15 h16 e hF)
  · rw [if_neg c19] at e
    refine V_pick [] rfl ?_
    refine V_iconst (pc := 31) (v := (0 : Int32)) dX12_met_31 (by decide) ?_
    cases e
    exact V_iret (pc := 32) dX12_met_32 hF
set_option maxRecDepth 100000 in
def F_X12_met_b23 (v0 : Nat) (v1 : Int32) (t0 : Nat) (h : Hp) : Option (Int32 × Hp) :=
  F_X12_met_b24 v0 v1 t0 (0 : Int32) h
set_option maxHeartbeats 4000000 in
set_option maxRecDepth 100000 in
theorem r_X12_met_b23 (v0 : Nat) (v1 : Int32) (t0 : Nat) (h : Hp) {x : Cx} {r : Int32} {hz : Hp} (e : F_X12_met_b23 v0 v1 t0 h = some (r, hz)) (hF : Fin9 M_X12_met x (some .int) (some (.int r)) hz) : V M_X12_met x 6 23 [(0, .ref v0), (1, .int v1)] [.ref t0] h 0 0 := by
  unfold F_X12_met_b23 at e
  refine V_iconst (pc := 23) (v := (0 : Int32)) dX12_met_23 (by decide) ?_
  exact V_pick [0, 1] rfl (r_X12_met_b24 v0 v1 t0 (0 : Int32) h e hF)
set_option maxRecDepth 100000 in
def F_X12_met_b0 (v0 : Nat) (v1 : Int32) (h : Hp) : Option (Int32 × Hp) :=
  gd (decide (kd h v0 = 11)) <| (if v1 = (-1 : Int32) then F_X12_met_b23 v0 v1 v0 (setI h v0 0 (0 : Int32)) else ob (F_X12_noGuest v0 v1 (setI h v0 0 (0 : Int32))) fun r21 => (if r21 = 0 then F_X12_met_b23 v0 v1 v0 (setI h v0 0 (0 : Int32)) else F_X12_met_b24 v0 v1 v0 (1 : Int32) (setI h v0 0 (0 : Int32))))
set_option maxHeartbeats 4000000 in
set_option maxRecDepth 100000 in
theorem r_X12_met_b0 (v0 : Nat) (v1 : Int32) (h : Hp) {x : Cx} {r : Int32} {hz : Hp} (e : F_X12_met_b0 v0 v1 h = some (r, hz)) (hF : Fin9 M_X12_met x (some .int) (some (.int r)) hz) : V M_X12_met x 6 0 [(0, .ref v0), (1, .int v1)] [] h 0 0 := by
  unfold F_X12_met_b0 at e
  refine V_aload_n (pc := 0) (i := 0) dX12_met_0 rfl rfl ?_
  refine V_iconst (pc := 1) (v := (0 : Int32)) dX12_met_1 (by decide) ?_
  obtain ⟨g1, e⟩ := gd_some e
  refine V_putI (pc := 2) (ci := 11) (k := 0) dX12_met_2 fp_X12_3 rfl (of_decide_eq_true g1) ?_
  refine V_aload_n (pc := 5) (i := 0) dX12_met_5 rfl rfl ?_
  refine V_iload_n (pc := 6) (i := 1) dX12_met_6 rfl rfl ?_
  refine V_iconst (pc := 7) (v := (-1 : Int32)) dX12_met_7 (by decide) ?_
  refine V_icmp_eq (pc := 8) (tgt := 23) dX12_met_8 (by decide) (fun c23 => ?_) (fun c23 => ?_)
  · rw [if_pos c23] at e
    exact V_pick [0, 1] rfl (r_X12_met_b23 v0 v1 v0 (setI h v0 0 (0 : Int32)) e hF)
  · rw [if_neg c23] at e
    refine V_pick [0, 1] rfl ?_
    refine V_aload_n (pc := 11) (i := 0) dX12_met_11 rfl rfl ?_
    refine V_iload_n (pc := 12) (i := 1) dX12_met_12 rfl rfl ?_
    obtain ⟨r21, g20, e⟩ := ob_some e
    refine V_callV (pc := 13) (bc := 0) (bs := 0) (mc := 0) (ms := 0) (st := [.ref v0]) (As := [.int v1]) (a := v0) (h' := (setI h v0 0 (0 : Int32))) (r := some (.int r21)) dX12_met_13 ml_X12_244 (ci := 11) rfl (kd_sI (of_decide_eq_true g1)) rfl rfl (Nat.le_of_ble_eq_true rfl) (d' := 1) (by decide) (c_X12_noGuest (l := x.2.1) v0 v1 (setI h v0 0 (0 : Int32)) g20) ?_
    refine V_if_eq (pc := 16) (tgt := 23) dX12_met_16 (by decide) (fun c22 => ?_) (fun c22 => ?_)
    · rw [if_pos c22] at e
      exact V_pick [0, 1] rfl (r_X12_met_b23 v0 v1 v0 (setI h v0 0 (0 : Int32)) e hF)
    · rw [if_neg c22] at e
      refine V_pick [0, 1] rfl ?_
      refine V_iconst (pc := 19) (v := (1 : Int32)) dX12_met_19 (by decide) ?_
      refine V_goto (pc := 20) (tgt := 24) dX12_met_20 (by decide) ?_
      exact V_pick [0, 1] rfl (r_X12_met_b24 v0 v1 v0 (1 : Int32) (setI h v0 0 (0 : Int32)) e hF)
def F_X12_met (v0 : Nat) (v1 : Int32) (h : Hp) : Option (Int32 × Hp) := F_X12_met_b0 v0 v1 h
theorem c_X12_met {l : Launch} (v0 : Nat) (v1 : Int32) (h : Hp) {r : Int32} {hz : Hp} (e : F_X12_met v0 v1 h = some (r, hz)) : Ct l yX12_met M_X12_met (some .int) 6 [.ref v0, .int v1] h 0 0 (some (.int r)) hz :=
  Ct_of rfl rfl (fun q => by cases q) (Nat.le_of_ble_eq_true rfl) (fun x _ hF => V_pick [0, 1] rfl (r_X12_met_b0 v0 v1 h e hF))
theorem dX12_besideRoom_0 : decode cX12_besideRoom 0 = .ok (.iload_n 2, 1) := by decide +kernel
theorem dX12_besideRoom_1 : decode cX12_besideRoom 1 = .ok (.ifCond .ne 7, 3) := by decide +kernel
theorem dX12_besideRoom_4 : decode cX12_besideRoom 4 = .ok (.iconst 1, 1) := by decide +kernel
theorem dX12_besideRoom_5 : decode cX12_besideRoom 5 = .ok (.goto 4, 3) := by decide +kernel
theorem dX12_besideRoom_8 : decode cX12_besideRoom 8 = .ok (.iconst 0, 1) := by decide +kernel
theorem dX12_besideRoom_9 : decode cX12_besideRoom 9 = .ok (.istore 4, 2) := by decide +kernel
theorem dX12_besideRoom_11 : decode cX12_besideRoom 11 = .ok (.iconst (-1), 1) := by decide +kernel
theorem dX12_besideRoom_12 : decode cX12_besideRoom 12 = .ok (.istore 5, 2) := by decide +kernel
theorem dX12_besideRoom_14 : decode cX12_besideRoom 14 = .ok (.iconst 0, 1) := by decide +kernel
theorem dX12_besideRoom_15 : decode cX12_besideRoom 15 = .ok (.istore 6, 2) := by decide +kernel
theorem dX12_besideRoom_17 : decode cX12_besideRoom 17 = .ok (.iload 6, 2) := by decide +kernel
theorem dX12_besideRoom_19 : decode cX12_besideRoom 19 = .ok (.aload_n 0, 1) := by decide +kernel
theorem dX12_besideRoom_20 : decode cX12_besideRoom 20 = .ok (.invokevirtual 60, 3) := by decide +kernel
theorem dX12_besideRoom_23 : decode cX12_besideRoom 23 = .ok (.if_icmp .ge 103, 3) := by decide +kernel
theorem dX12_besideRoom_26 : decode cX12_besideRoom 26 = .ok (.iload_n 3, 1) := by decide +kernel
theorem dX12_besideRoom_27 : decode cX12_besideRoom 27 = .ok (.ifCond .eq 20, 3) := by decide +kernel
theorem dX12_besideRoom_30 : decode cX12_besideRoom 30 = .ok (.aload_n 0, 1) := by decide +kernel
theorem dX12_besideRoom_31 : decode cX12_besideRoom 31 = .ok (.iload 6, 2) := by decide +kernel
theorem dX12_besideRoom_33 : decode cX12_besideRoom 33 = .ok (.iload_n 2, 1) := by decide +kernel
theorem dX12_besideRoom_34 : decode cX12_besideRoom 34 = .ok (.invokevirtual 131, 3) := by decide +kernel
theorem dX12_besideRoom_37 : decode cX12_besideRoom 37 = .ok (.aload_n 0, 1) := by decide +kernel
theorem dX12_besideRoom_38 : decode cX12_besideRoom 38 = .ok (.iload_n 1, 1) := by decide +kernel
theorem dX12_besideRoom_39 : decode cX12_besideRoom 39 = .ok (.iload_n 2, 1) := by decide +kernel
theorem dX12_besideRoom_40 : decode cX12_besideRoom 40 = .ok (.invokevirtual 131, 3) := by decide +kernel
theorem dX12_besideRoom_43 : decode cX12_besideRoom 43 = .ok (.isub, 1) := by decide +kernel
theorem dX12_besideRoom_44 : decode cX12_besideRoom 44 = .ok (.goto 17, 3) := by decide +kernel
theorem dX12_besideRoom_47 : decode cX12_besideRoom 47 = .ok (.aload_n 0, 1) := by decide +kernel
theorem dX12_besideRoom_48 : decode cX12_besideRoom 48 = .ok (.iload_n 1, 1) := by decide +kernel
theorem dX12_besideRoom_49 : decode cX12_besideRoom 49 = .ok (.iload_n 2, 1) := by decide +kernel
theorem dX12_besideRoom_50 : decode cX12_besideRoom 50 = .ok (.invokevirtual 131, 3) := by decide +kernel
theorem dX12_besideRoom_53 : decode cX12_besideRoom 53 = .ok (.aload_n 0, 1) := by decide +kernel
theorem dX12_besideRoom_54 : decode cX12_besideRoom 54 = .ok (.iload 6, 2) := by decide +kernel
theorem dX12_besideRoom_56 : decode cX12_besideRoom 56 = .ok (.iload_n 2, 1) := by decide +kernel
theorem dX12_besideRoom_57 : decode cX12_besideRoom 57 = .ok (.invokevirtual 131, 3) := by decide +kernel
theorem dX12_besideRoom_60 : decode cX12_besideRoom 60 = .ok (.isub, 1) := by decide +kernel
theorem dX12_besideRoom_61 : decode cX12_besideRoom 61 = .ok (.istore 7, 2) := by decide +kernel
theorem dX12_besideRoom_63 : decode cX12_besideRoom 63 = .ok (.iload 7, 2) := by decide +kernel
theorem dX12_besideRoom_65 : decode cX12_besideRoom 65 = .ok (.ifCond .le 55, 3) := by decide +kernel
theorem dX12_besideRoom_68 : decode cX12_besideRoom 68 = .ok (.aload_n 0, 1) := by decide +kernel
theorem dX12_besideRoom_69 : decode cX12_besideRoom 69 = .ok (.iload 6, 2) := by decide +kernel
theorem dX12_besideRoom_71 : decode cX12_besideRoom 71 = .ok (.iload 4, 2) := by decide +kernel
theorem dX12_besideRoom_73 : decode cX12_besideRoom 73 = .ok (.invokevirtual 131, 3) := by decide +kernel
theorem dX12_besideRoom_76 : decode cX12_besideRoom 76 = .ok (.aload_n 0, 1) := by decide +kernel
theorem dX12_besideRoom_77 : decode cX12_besideRoom 77 = .ok (.iload_n 1, 1) := by decide +kernel
theorem dX12_besideRoom_78 : decode cX12_besideRoom 78 = .ok (.iload 4, 2) := by decide +kernel
theorem dX12_besideRoom_80 : decode cX12_besideRoom 80 = .ok (.invokevirtual 131, 3) := by decide +kernel
theorem dX12_besideRoom_83 : decode cX12_besideRoom 83 = .ok (.if_icmp .eq 6, 3) := by decide +kernel
theorem dX12_besideRoom_86 : decode cX12_besideRoom 86 = .ok (.goto 34, 3) := by decide +kernel
theorem dX12_besideRoom_89 : decode cX12_besideRoom 89 = .ok (.iload 5, 2) := by decide +kernel
theorem dX12_besideRoom_91 : decode cX12_besideRoom 91 = .ok (.ifCond .lt 25, 3) := by decide +kernel
theorem dX12_besideRoom_94 : decode cX12_besideRoom 94 = .ok (.iload 7, 2) := by decide +kernel
theorem dX12_besideRoom_96 : decode cX12_besideRoom 96 = .ok (.aload_n 0, 1) := by decide +kernel
theorem dX12_besideRoom_97 : decode cX12_besideRoom 97 = .ok (.iload 5, 2) := by decide +kernel
theorem dX12_besideRoom_99 : decode cX12_besideRoom 99 = .ok (.iload_n 2, 1) := by decide +kernel
theorem dX12_besideRoom_100 : decode cX12_besideRoom 100 = .ok (.invokevirtual 131, 3) := by decide +kernel
theorem dX12_besideRoom_103 : decode cX12_besideRoom 103 = .ok (.aload_n 0, 1) := by decide +kernel
theorem dX12_besideRoom_104 : decode cX12_besideRoom 104 = .ok (.iload_n 1, 1) := by decide +kernel
theorem dX12_besideRoom_105 : decode cX12_besideRoom 105 = .ok (.iload_n 2, 1) := by decide +kernel
theorem dX12_besideRoom_106 : decode cX12_besideRoom 106 = .ok (.invokevirtual 131, 3) := by decide +kernel
theorem dX12_besideRoom_109 : decode cX12_besideRoom 109 = .ok (.isub, 1) := by decide +kernel
theorem dX12_besideRoom_110 : decode cX12_besideRoom 110 = .ok (.invokestatic 74, 3) := by decide +kernel
theorem dX12_besideRoom_113 : decode cX12_besideRoom 113 = .ok (.if_icmp .ge 7, 3) := by decide +kernel
theorem dX12_besideRoom_116 : decode cX12_besideRoom 116 = .ok (.iload 6, 2) := by decide +kernel
theorem dX12_besideRoom_118 : decode cX12_besideRoom 118 = .ok (.istore 5, 2) := by decide +kernel
theorem dX12_besideRoom_120 : decode cX12_besideRoom 120 = .ok (.iinc 6 1, 3) := by decide +kernel
theorem dX12_besideRoom_123 : decode cX12_besideRoom 123 = .ok (.goto (-106), 3) := by decide +kernel
theorem dX12_besideRoom_126 : decode cX12_besideRoom 126 = .ok (.iload 5, 2) := by decide +kernel
theorem dX12_besideRoom_128 : decode cX12_besideRoom 128 = .ok (.ireturn, 1) := by decide +kernel
set_option maxRecDepth 100000 in
def F_X12_besideRoom_b120 (v0 : Nat) (v1 : Int32) (v2 : Int32) (v3 : Int32) (v4 : Int32) (v5 : Int32) (v6 : Int32) (h : Hp) : Option ((Int32 × Int32) ⊕ Int32) :=
  some (.inl (v5, v6 + (1 : Int32)))
set_option maxHeartbeats 4000000 in
set_option maxRecDepth 100000 in
theorem r_X12_besideRoom_b120 (v0 : Nat) (v1 : Int32) (v2 : Int32) (v3 : Int32) (v4 : Int32) (v5 : Int32) (v6 : Int32) (h : Hp) {x : Cx} {o : ((Int32 × Int32) ⊕ Int32)} (e : F_X12_besideRoom_b120 v0 v1 v2 v3 v4 v5 v6 h = some o) (kI : ∀ z, o = .inl z → V M_X12_besideRoom x 1 17 [(0, .ref v0), (1, .int v1), (2, .int v2), (3, .int v3), (4, .int v4), (5, .int z.1), (6, .int z.2)] [] h 0 0) (kE126 : ∀ z : Int32, o = .inr z → V M_X12_besideRoom x 1 126 [(5, .int z)] [] h 0 0) : V M_X12_besideRoom x 1 120 [(0, .ref v0), (1, .int v1), (2, .int v2), (3, .int v3), (4, .int v4), (5, .int v5), (6, .int v6)] [] h 0 0 := by
  unfold F_X12_besideRoom_b120 at e
  refine V_iinc (pc := 120) (i := 6) (u := v6 + (1 : Int32)) (lv' := [(6, .int (v6 + (1 : Int32))), (0, .ref v0), (1, .int v1), (2, .int v2), (3, .int v3), (4, .int v4), (5, .int v5)]) dX12_besideRoom_120 rfl rfl (by decide) rfl ?_
  refine V_goto (pc := 123) (tgt := 17) dX12_besideRoom_123 (by decide) ?_
  cases e
  exact V_pick [1, 2, 3, 4, 5, 6, 0] rfl (kI (v5, v6 + (1 : Int32)) rfl)
set_option maxRecDepth 100000 in
def F_X12_besideRoom_b116 (v0 : Nat) (v1 : Int32) (v2 : Int32) (v3 : Int32) (v4 : Int32) (v6 : Int32) (h : Hp) : Option ((Int32 × Int32) ⊕ Int32) :=
  F_X12_besideRoom_b120 v0 v1 v2 v3 v4 v6 v6 h
set_option maxHeartbeats 4000000 in
set_option maxRecDepth 100000 in
theorem r_X12_besideRoom_b116 (v0 : Nat) (v1 : Int32) (v2 : Int32) (v3 : Int32) (v4 : Int32) (v6 : Int32) (h : Hp) {x : Cx} {o : ((Int32 × Int32) ⊕ Int32)} (e : F_X12_besideRoom_b116 v0 v1 v2 v3 v4 v6 h = some o) (kI : ∀ z, o = .inl z → V M_X12_besideRoom x 1 17 [(0, .ref v0), (1, .int v1), (2, .int v2), (3, .int v3), (4, .int v4), (5, .int z.1), (6, .int z.2)] [] h 0 0) (kE126 : ∀ z : Int32, o = .inr z → V M_X12_besideRoom x 1 126 [(5, .int z)] [] h 0 0) : V M_X12_besideRoom x 1 116 [(0, .ref v0), (1, .int v1), (2, .int v2), (3, .int v3), (4, .int v4), (6, .int v6)] [] h 0 0 := by
  unfold F_X12_besideRoom_b116 at e
  refine V_iload (pc := 116) (i := 6) dX12_besideRoom_116 rfl ?_
  refine V_istore (pc := 118) (i := 5) (lv' := [(5, .int v6), (0, .ref v0), (1, .int v1), (2, .int v2), (3, .int v3), (4, .int v4), (6, .int v6)]) dX12_besideRoom_118 (by decide) rfl ?_
  exact V_pick [1, 2, 3, 4, 5, 0, 6] rfl (r_X12_besideRoom_b120 v0 v1 v2 v3 v4 v6 v6 h e kI kE126)
set_option maxRecDepth 100000 in
def F_X12_besideRoom_b61 (v0 : Nat) (v1 : Int32) (v2 : Int32) (v3 : Int32) (v4 : Int32) (v5 : Int32) (v6 : Int32) (t0 : Int32) (h : Hp) : Option ((Int32 × Int32) ⊕ Int32) :=
  (if t0 ≤ 0 then F_X12_besideRoom_b120 v0 v1 v2 v3 v4 v5 v6 h else ob (F_X12_ofRoom v0 v6 v4 h) fun r9 => gd (decide (kd h v0 = 11)) <| ob (F_X12_ofRoom v0 v1 v4 h) fun r12 => (if r9 = r12 then (if v5 < 0 then F_X12_besideRoom_b116 v0 v1 v2 v3 v4 v6 h else ob (F_X12_ofRoom v0 v5 v2 h) fun r14 => ob (F_X12_ofRoom v0 v1 v2 h) fun r16 => (if (jabs (r14 - r16)) ≤ t0 then F_X12_besideRoom_b120 v0 v1 v2 v3 v4 v5 v6 h else F_X12_besideRoom_b116 v0 v1 v2 v3 v4 v6 h)) else F_X12_besideRoom_b120 v0 v1 v2 v3 v4 v5 v6 h))
set_option maxHeartbeats 4000000 in
set_option maxRecDepth 100000 in
theorem r_X12_besideRoom_b61 (v0 : Nat) (v1 : Int32) (v2 : Int32) (v3 : Int32) (v4 : Int32) (v5 : Int32) (v6 : Int32) (t0 : Int32) (h : Hp) {x : Cx} {o : ((Int32 × Int32) ⊕ Int32)} (e : F_X12_besideRoom_b61 v0 v1 v2 v3 v4 v5 v6 t0 h = some o) (kI : ∀ z, o = .inl z → V M_X12_besideRoom x 1 17 [(0, .ref v0), (1, .int v1), (2, .int v2), (3, .int v3), (4, .int v4), (5, .int z.1), (6, .int z.2)] [] h 0 0) (kE126 : ∀ z : Int32, o = .inr z → V M_X12_besideRoom x 1 126 [(5, .int z)] [] h 0 0) : V M_X12_besideRoom x 1 61 [(0, .ref v0), (1, .int v1), (2, .int v2), (3, .int v3), (4, .int v4), (5, .int v5), (6, .int v6)] [.int t0] h 0 0 := by
  unfold F_X12_besideRoom_b61 at e
  refine V_istore (pc := 61) (i := 7) (lv' := [(7, .int t0), (0, .ref v0), (1, .int v1), (2, .int v2), (3, .int v3), (4, .int v4), (5, .int v5), (6, .int v6)]) dX12_besideRoom_61 (by decide) rfl ?_
  refine V_iload (pc := 63) (i := 7) dX12_besideRoom_63 rfl ?_
  refine V_if_le (pc := 65) (tgt := 120) dX12_besideRoom_65 (by decide) (fun c20 => ?_) (fun c20 => ?_)
  · rw [if_pos c20] at e
    exact V_pick [1, 2, 3, 4, 5, 6, 7] rfl (r_X12_besideRoom_b120 v0 v1 v2 v3 v4 v5 v6 h e kI kE126)
  · rw [if_neg c20] at e
    refine V_pick [1, 2, 3, 4, 5, 6, 7, 0] rfl ?_
    refine V_aload_n (pc := 68) (i := 0) dX12_besideRoom_68 rfl rfl ?_
    refine V_iload (pc := 69) (i := 6) dX12_besideRoom_69 rfl ?_
    refine V_iload (pc := 71) (i := 4) dX12_besideRoom_71 rfl ?_
    obtain ⟨r9, g8, e⟩ := ob_some e
    obtain ⟨g10, e⟩ := gd_some e
    refine V_callV (pc := 73) (bc := 0) (bs := 0) (mc := 0) (ms := 0) (st := []) (As := [.int v6, .int v4]) (a := v0) (h' := h) (r := some (.int r9)) dX12_besideRoom_73 ml_X12_131 (ci := 11) rfl (of_decide_eq_true g10) rfl rfl (Nat.le_of_ble_eq_true rfl) (d' := 0) (by decide) (c_X12_ofRoom (l := x.2.1) v0 v6 v4 h g8) ?_
    refine V_aload_n (pc := 76) (i := 0) dX12_besideRoom_76 rfl rfl ?_
    refine V_iload_n (pc := 77) (i := 1) dX12_besideRoom_77 rfl rfl ?_
    refine V_iload (pc := 78) (i := 4) dX12_besideRoom_78 rfl ?_
    obtain ⟨r12, g11, e⟩ := ob_some e
    refine V_callV (pc := 80) (bc := 0) (bs := 0) (mc := 0) (ms := 0) (st := [.int r9]) (As := [.int v1, .int v4]) (a := v0) (h' := h) (r := some (.int r12)) dX12_besideRoom_80 ml_X12_131 (ci := 11) rfl (of_decide_eq_true g10) rfl rfl (Nat.le_of_ble_eq_true rfl) (d' := 0) (by decide) (c_X12_ofRoom (l := x.2.1) v0 v1 v4 h g11) ?_
    refine V_icmp_eq (pc := 83) (tgt := 89) dX12_besideRoom_83 (by decide) (fun c19 => ?_) (fun c19 => ?_)
    · rw [if_pos c19] at e
      refine V_pick [0, 1, 2, 3, 4, 5, 6, 7] rfl ?_
      refine V_iload (pc := 89) (i := 5) dX12_besideRoom_89 rfl ?_
      refine V_if_lt (pc := 91) (tgt := 116) dX12_besideRoom_91 (by decide) (fun c18 => ?_) (fun c18 => ?_)
      · rw [if_pos c18] at e
        exact V_pick [0, 1, 2, 3, 4, 6] rfl (r_X12_besideRoom_b116 v0 v1 v2 v3 v4 v6 h e kI kE126)
      · rw [if_neg c18] at e
        refine V_pick [0, 1, 2, 3, 4, 5, 6, 7] rfl ?_
        refine V_iload (pc := 94) (i := 7) dX12_besideRoom_94 rfl ?_
        refine V_aload_n (pc := 96) (i := 0) dX12_besideRoom_96 rfl rfl ?_
        refine V_iload (pc := 97) (i := 5) dX12_besideRoom_97 rfl ?_
        refine V_iload_n (pc := 99) (i := 2) dX12_besideRoom_99 rfl rfl ?_
        obtain ⟨r14, g13, e⟩ := ob_some e
        refine V_callV (pc := 100) (bc := 0) (bs := 0) (mc := 0) (ms := 0) (st := [.int t0]) (As := [.int v5, .int v2]) (a := v0) (h' := h) (r := some (.int r14)) dX12_besideRoom_100 ml_X12_131 (ci := 11) rfl (of_decide_eq_true g10) rfl rfl (Nat.le_of_ble_eq_true rfl) (d' := 0) (by decide) (c_X12_ofRoom (l := x.2.1) v0 v5 v2 h g13) ?_
        refine V_aload_n (pc := 103) (i := 0) dX12_besideRoom_103 rfl rfl ?_
        refine V_iload_n (pc := 104) (i := 1) dX12_besideRoom_104 rfl rfl ?_
        refine V_iload_n (pc := 105) (i := 2) dX12_besideRoom_105 rfl rfl ?_
        obtain ⟨r16, g15, e⟩ := ob_some e
        refine V_callV (pc := 106) (bc := 0) (bs := 0) (mc := 0) (ms := 0) (st := [.int r14, .int t0]) (As := [.int v1, .int v2]) (a := v0) (h' := h) (r := some (.int r16)) dX12_besideRoom_106 ml_X12_131 (ci := 11) rfl (of_decide_eq_true g10) rfl rfl (Nat.le_of_ble_eq_true rfl) (d' := 0) (by decide) (c_X12_ofRoom (l := x.2.1) v0 v1 v2 h g15) ?_
        refine V_isub (pc := 109) dX12_besideRoom_109 ?_
        refine V_abs (pc := 110) dX12_besideRoom_110 wm_X12_74 (by decide) (Nat.le_of_ble_eq_true rfl) ?_
        refine V_icmp_ge (pc := 113) (tgt := 120) dX12_besideRoom_113 (by decide) (fun c17 => ?_) (fun c17 => ?_)
        · rw [if_pos c17] at e
          exact V_pick [0, 1, 2, 3, 4, 5, 6] rfl (r_X12_besideRoom_b120 v0 v1 v2 v3 v4 v5 v6 h e kI kE126)
        · rw [if_neg c17] at e
          exact V_pick [0, 1, 2, 3, 4, 6] rfl (r_X12_besideRoom_b116 v0 v1 v2 v3 v4 v6 h e kI kE126)
    · rw [if_neg c19] at e
      refine V_pick [0, 1, 2, 3, 4, 5, 6] rfl ?_
      refine V_goto (pc := 86) (tgt := 120) dX12_besideRoom_86 (by decide) ?_
      exact V_pick [0, 1, 2, 3, 4, 5, 6] rfl (r_X12_besideRoom_b120 v0 v1 v2 v3 v4 v5 v6 h e kI kE126)
set_option maxRecDepth 100000 in
def F_X12_besideRoom_l17 (v0 : Nat) (v1 : Int32) (v2 : Int32) (v3 : Int32) (v4 : Int32) (v5 : Int32) (v6 : Int32) (h : Hp) : Option ((Int32 × Int32) ⊕ Int32) :=
  ob (F_X12_rooms v0 h) fun r2 => gd (decide (kd h v0 = 11)) <| (if r2 ≤ v6 then some (.inr v5) else (if v3 = 0 then ob (F_X12_ofRoom v0 v1 v2 h) fun r5 => ob (F_X12_ofRoom v0 v6 v2 h) fun r7 => F_X12_besideRoom_b61 v0 v1 v2 v3 v4 v5 v6 (r5 - r7) h else ob (F_X12_ofRoom v0 v6 v2 h) fun r22 => ob (F_X12_ofRoom v0 v1 v2 h) fun r24 => F_X12_besideRoom_b61 v0 v1 v2 v3 v4 v5 v6 (r22 - r24) h))
set_option maxHeartbeats 4000000 in
set_option maxRecDepth 100000 in
theorem r_X12_besideRoom_l17 (v0 : Nat) (v1 : Int32) (v2 : Int32) (v3 : Int32) (v4 : Int32) (v5 : Int32) (v6 : Int32) (h : Hp) {x : Cx} {o : ((Int32 × Int32) ⊕ Int32)} (e : F_X12_besideRoom_l17 v0 v1 v2 v3 v4 v5 v6 h = some o) (kI : ∀ z, o = .inl z → V M_X12_besideRoom x 1 17 [(0, .ref v0), (1, .int v1), (2, .int v2), (3, .int v3), (4, .int v4), (5, .int z.1), (6, .int z.2)] [] h 0 0) (kE126 : ∀ z : Int32, o = .inr z → V M_X12_besideRoom x 1 126 [(5, .int z)] [] h 0 0) : V M_X12_besideRoom x 1 17 [(0, .ref v0), (1, .int v1), (2, .int v2), (3, .int v3), (4, .int v4), (5, .int v5), (6, .int v6)] [] h 0 0 := by
  unfold F_X12_besideRoom_l17 at e
  refine V_iload (pc := 17) (i := 6) dX12_besideRoom_17 rfl ?_
  refine V_aload_n (pc := 19) (i := 0) dX12_besideRoom_19 rfl rfl ?_
  obtain ⟨r2, g1, e⟩ := ob_some e
  obtain ⟨g3, e⟩ := gd_some e
  refine V_callV (pc := 20) (bc := 0) (bs := 0) (mc := 0) (ms := 0) (st := [.int v6]) (As := []) (a := v0) (h' := h) (r := some (.int r2)) dX12_besideRoom_20 ml_X12_60 (ci := 11) rfl (of_decide_eq_true g3) rfl rfl (Nat.le_of_ble_eq_true rfl) (d' := 0) (by decide) (c_X12_rooms (l := x.2.1) v0 h g1) ?_
  refine V_icmp_ge (pc := 23) (tgt := 126) dX12_besideRoom_23 (by decide) (fun c26 => ?_) (fun c26 => ?_)
  · rw [if_pos c26] at e
    cases e
    exact V_pick [5] rfl (kE126 v5 rfl)
  · rw [if_neg c26] at e
    refine V_pick [0, 1, 2, 3, 4, 5, 6] rfl ?_
    refine V_iload_n (pc := 26) (i := 3) dX12_besideRoom_26 rfl rfl ?_
    refine V_if_eq (pc := 27) (tgt := 47) dX12_besideRoom_27 (by decide) (fun c25 => ?_) (fun c25 => ?_)
    · rw [if_pos c25] at e
      refine V_pick [0, 1, 2, 3, 4, 5, 6] rfl ?_
      refine V_aload_n (pc := 47) (i := 0) dX12_besideRoom_47 rfl rfl ?_
      refine V_iload_n (pc := 48) (i := 1) dX12_besideRoom_48 rfl rfl ?_
      refine V_iload_n (pc := 49) (i := 2) dX12_besideRoom_49 rfl rfl ?_
      obtain ⟨r5, g4, e⟩ := ob_some e
      refine V_callV (pc := 50) (bc := 0) (bs := 0) (mc := 0) (ms := 0) (st := []) (As := [.int v1, .int v2]) (a := v0) (h' := h) (r := some (.int r5)) dX12_besideRoom_50 ml_X12_131 (ci := 11) rfl (of_decide_eq_true g3) rfl rfl (Nat.le_of_ble_eq_true rfl) (d' := 0) (by decide) (c_X12_ofRoom (l := x.2.1) v0 v1 v2 h g4) ?_
      refine V_aload_n (pc := 53) (i := 0) dX12_besideRoom_53 rfl rfl ?_
      refine V_iload (pc := 54) (i := 6) dX12_besideRoom_54 rfl ?_
      refine V_iload_n (pc := 56) (i := 2) dX12_besideRoom_56 rfl rfl ?_
      obtain ⟨r7, g6, e⟩ := ob_some e
      refine V_callV (pc := 57) (bc := 0) (bs := 0) (mc := 0) (ms := 0) (st := [.int r5]) (As := [.int v6, .int v2]) (a := v0) (h' := h) (r := some (.int r7)) dX12_besideRoom_57 ml_X12_131 (ci := 11) rfl (of_decide_eq_true g3) rfl rfl (Nat.le_of_ble_eq_true rfl) (d' := 0) (by decide) (c_X12_ofRoom (l := x.2.1) v0 v6 v2 h g6) ?_
      refine V_isub (pc := 60) dX12_besideRoom_60 ?_
      exact V_pick [0, 1, 2, 3, 4, 5, 6] rfl (r_X12_besideRoom_b61 v0 v1 v2 v3 v4 v5 v6 (r5 - r7) h e kI kE126)
    · rw [if_neg c25] at e
      refine V_pick [0, 1, 2, 3, 4, 5, 6] rfl ?_
      refine V_aload_n (pc := 30) (i := 0) dX12_besideRoom_30 rfl rfl ?_
      refine V_iload (pc := 31) (i := 6) dX12_besideRoom_31 rfl ?_
      refine V_iload_n (pc := 33) (i := 2) dX12_besideRoom_33 rfl rfl ?_
      obtain ⟨r22, g21, e⟩ := ob_some e
      refine V_callV (pc := 34) (bc := 0) (bs := 0) (mc := 0) (ms := 0) (st := []) (As := [.int v6, .int v2]) (a := v0) (h' := h) (r := some (.int r22)) dX12_besideRoom_34 ml_X12_131 (ci := 11) rfl (of_decide_eq_true g3) rfl rfl (Nat.le_of_ble_eq_true rfl) (d' := 0) (by decide) (c_X12_ofRoom (l := x.2.1) v0 v6 v2 h g21) ?_
      refine V_aload_n (pc := 37) (i := 0) dX12_besideRoom_37 rfl rfl ?_
      refine V_iload_n (pc := 38) (i := 1) dX12_besideRoom_38 rfl rfl ?_
      refine V_iload_n (pc := 39) (i := 2) dX12_besideRoom_39 rfl rfl ?_
      obtain ⟨r24, g23, e⟩ := ob_some e
      refine V_callV (pc := 40) (bc := 0) (bs := 0) (mc := 0) (ms := 0) (st := [.int r22]) (As := [.int v1, .int v2]) (a := v0) (h' := h) (r := some (.int r24)) dX12_besideRoom_40 ml_X12_131 (ci := 11) rfl (of_decide_eq_true g3) rfl rfl (Nat.le_of_ble_eq_true rfl) (d' := 0) (by decide) (c_X12_ofRoom (l := x.2.1) v0 v1 v2 h g23) ?_
      refine V_isub (pc := 43) dX12_besideRoom_43 ?_
      refine V_goto (pc := 44) (tgt := 61) dX12_besideRoom_44 (by decide) ?_
      exact V_pick [0, 1, 2, 3, 4, 5, 6] rfl (r_X12_besideRoom_b61 v0 v1 v2 v3 v4 v5 v6 (r22 - r24) h e kI kE126)
set_option maxRecDepth 100000 in
def F_X12_besideRoom_b9 (v0 : Nat) (v1 : Int32) (v2 : Int32) (v3 : Int32) (t0 : Int32) (h : Hp) : Option Int32 :=
  ob (iter (fun z : Int32 × Int32 => F_X12_besideRoom_l17 v0 v1 v2 v3 t0 z.1 z.2 h) FU ((-1 : Int32), (0 : Int32))) (fun w27 => some w27)
set_option maxHeartbeats 4000000 in
set_option maxRecDepth 100000 in
theorem r_X12_besideRoom_b9 (v0 : Nat) (v1 : Int32) (v2 : Int32) (v3 : Int32) (t0 : Int32) (h : Hp) {x : Cx} {r : Int32} (e : F_X12_besideRoom_b9 v0 v1 v2 v3 t0 h = some r) (hF : Fin9 M_X12_besideRoom x (some .int) (some (.int r)) h) : V M_X12_besideRoom x 1 9 [(0, .ref v0), (1, .int v1), (2, .int v2), (3, .int v3)] [.int t0] h 0 0 := by
  unfold F_X12_besideRoom_b9 at e
  refine V_istore (pc := 9) (i := 4) (lv' := [(4, .int t0), (0, .ref v0), (1, .int v1), (2, .int v2), (3, .int v3)]) dX12_besideRoom_9 (by decide) rfl ?_
  refine V_iconst (pc := 11) (v := (-1 : Int32)) dX12_besideRoom_11 (by decide) ?_
  refine V_istore (pc := 12) (i := 5) (lv' := [(5, .int (-1 : Int32)), (4, .int t0), (0, .ref v0), (1, .int v1), (2, .int v2), (3, .int v3)]) dX12_besideRoom_12 (by decide) rfl ?_
  refine V_iconst (pc := 14) (v := (0 : Int32)) dX12_besideRoom_14 (by decide) ?_
  refine V_istore (pc := 15) (i := 6) (lv' := [(6, .int (0 : Int32)), (5, .int (-1 : Int32)), (4, .int t0), (0, .ref v0), (1, .int v1), (2, .int v2), (3, .int v3)]) dX12_besideRoom_15 (by decide) rfl ?_
  refine V_pick [3, 4, 5, 6, 2, 1, 0] rfl ?_
  obtain ⟨y28, g29, e⟩ := ob_some e
  refine iter_V (P := fun z : Int32 × Int32 => V M_X12_besideRoom x 1 17 [(0, .ref v0), (1, .int v1), (2, .int v2), (3, .int v3), (4, .int t0), (5, .int z.1), (6, .int z.2)] [] h 0 0) (E := fun z : Int32 => V M_X12_besideRoom x 1 126 [(5, .int z)] [] h 0 0) (fun z o e9 k1 k2 => r_X12_besideRoom_l17 v0 v1 v2 v3 t0 z.1 z.2 h e9 (fun z hz9 => k1 z hz9) (fun z hz9 => k2 _ hz9)) _ _ _ g29 ?_
  clear g29
  obtain ⟨w27, rfl⟩ : ∃ q, q = y28 := ⟨_, rfl⟩
  replace e : (some w27) = some r := e
  show V M_X12_besideRoom x 1 126 [(5, .int w27)] [] h 0 0
  refine V_iload (pc := 126) (i := 5) dX12_besideRoom_126 rfl ?_
  cases e
  exact V_iret (pc := 128) dX12_besideRoom_128 hF
set_option maxRecDepth 100000 in
def F_X12_besideRoom_b0 (v0 : Nat) (v1 : Int32) (v2 : Int32) (v3 : Int32) (h : Hp) : Option Int32 :=
  (if v2 = 0 then F_X12_besideRoom_b9 v0 v1 v2 v3 (1 : Int32) h else F_X12_besideRoom_b9 v0 v1 v2 v3 (0 : Int32) h)
set_option maxHeartbeats 4000000 in
set_option maxRecDepth 100000 in
theorem r_X12_besideRoom_b0 (v0 : Nat) (v1 : Int32) (v2 : Int32) (v3 : Int32) (h : Hp) {x : Cx} {r : Int32} (e : F_X12_besideRoom_b0 v0 v1 v2 v3 h = some r) (hF : Fin9 M_X12_besideRoom x (some .int) (some (.int r)) h) : V M_X12_besideRoom x 1 0 [(0, .ref v0), (1, .int v1), (2, .int v2), (3, .int v3)] [] h 0 0 := by
  unfold F_X12_besideRoom_b0 at e
  refine V_iload_n (pc := 0) (i := 2) dX12_besideRoom_0 rfl rfl ?_
  refine V_if_ne (pc := 1) (tgt := 8) dX12_besideRoom_1 (by decide) (fun c30 => ?_) (fun c30 => ?_)
  · rw [if_neg c30] at e
    refine V_pick [0, 1, 2, 3] rfl ?_
    refine V_iconst (pc := 8) (v := (0 : Int32)) dX12_besideRoom_8 (by decide) ?_
    exact V_pick [0, 1, 2, 3] rfl (r_X12_besideRoom_b9 v0 v1 v2 v3 (0 : Int32) h e hF)
  · rw [if_pos c30] at e
    refine V_pick [0, 1, 2, 3] rfl ?_
    refine V_iconst (pc := 4) (v := (1 : Int32)) dX12_besideRoom_4 (by decide) ?_
    refine V_goto (pc := 5) (tgt := 9) dX12_besideRoom_5 (by decide) ?_
    exact V_pick [0, 1, 2, 3] rfl (r_X12_besideRoom_b9 v0 v1 v2 v3 (1 : Int32) h e hF)
def F_X12_besideRoom (v0 : Nat) (v1 : Int32) (v2 : Int32) (v3 : Int32) (h : Hp) : Option Int32 := F_X12_besideRoom_b0 v0 v1 v2 v3 h
theorem c_X12_besideRoom {l : Launch} (v0 : Nat) (v1 : Int32) (v2 : Int32) (v3 : Int32) (h : Hp) {r : Int32} (e : F_X12_besideRoom v0 v1 v2 v3 h = some r) : Ct l yX12_besideRoom M_X12_besideRoom (some .int) 1 [.ref v0, .int v1, .int v2, .int v3] h 0 0 (some (.int r)) h :=
  Ct_of rfl rfl (fun q => by cases q) (Nat.le_of_ble_eq_true rfl) (fun x _ hF => V_pick [0, 1, 2, 3] rfl (r_X12_besideRoom_b0 v0 v1 v2 v3 h e hF))
theorem dX12_slides_0 : decode cX12_slides 0 = .ok (.iload_n 2, 1) := by decide +kernel
theorem dX12_slides_1 : decode cX12_slides 1 = .ok (.invokestatic 74, 3) := by decide +kernel
theorem dX12_slides_4 : decode cX12_slides 4 = .ok (.aload_n 0, 1) := by decide +kernel
theorem dX12_slides_5 : decode cX12_slides 5 = .ok (.getfield 13, 3) := by decide +kernel
theorem dX12_slides_8 : decode cX12_slides 8 = .ok (.bipush 9, 2) := by decide +kernel
theorem dX12_slides_10 : decode cX12_slides 10 = .ok (.iaload, 1) := by decide +kernel
theorem dX12_slides_11 : decode cX12_slides 11 = .ok (.if_icmp .gt 4, 3) := by decide +kernel
theorem dX12_slides_14 : decode cX12_slides 14 = .ok (.return_, 1) := by decide +kernel
theorem dX12_slides_15 : decode cX12_slides 15 = .ok (.iconst 0, 1) := by decide +kernel
theorem dX12_slides_16 : decode cX12_slides 16 = .ok (.istore_n 3, 1) := by decide +kernel
theorem dX12_slides_17 : decode cX12_slides 17 = .ok (.iload_n 3, 1) := by decide +kernel
theorem dX12_slides_18 : decode cX12_slides 18 = .ok (.aload_n 0, 1) := by decide +kernel
theorem dX12_slides_19 : decode cX12_slides 19 = .ok (.invokevirtual 71, 3) := by decide +kernel
theorem dX12_slides_22 : decode cX12_slides 22 = .ok (.if_icmp .ge 64, 3) := by decide +kernel
theorem dX12_slides_25 : decode cX12_slides 25 = .ok (.aload_n 0, 1) := by decide +kernel
theorem dX12_slides_26 : decode cX12_slides 26 = .ok (.aload_n 0, 1) := by decide +kernel
theorem dX12_slides_27 : decode cX12_slides 27 = .ok (.iload_n 3, 1) := by decide +kernel
theorem dX12_slides_28 : decode cX12_slides 28 = .ok (.iconst 2, 1) := by decide +kernel
theorem dX12_slides_29 : decode cX12_slides 29 = .ok (.invokevirtual 265, 3) := by decide +kernel
theorem dX12_slides_32 : decode cX12_slides 32 = .ok (.iload_n 1, 1) := by decide +kernel
theorem dX12_slides_33 : decode cX12_slides 33 = .ok (.iload_n 2, 1) := by decide +kernel
theorem dX12_slides_34 : decode cX12_slides 34 = .ok (.ifCond .le 7, 3) := by decide +kernel
theorem dX12_slides_37 : decode cX12_slides 37 = .ok (.iconst 1, 1) := by decide +kernel
theorem dX12_slides_38 : decode cX12_slides 38 = .ok (.goto 4, 3) := by decide +kernel
theorem dX12_slides_41 : decode cX12_slides 41 = .ok (.iconst 0, 1) := by decide +kernel
theorem dX12_slides_42 : decode cX12_slides 42 = .ok (.invokevirtual 315, 3) := by decide +kernel
theorem dX12_slides_45 : decode cX12_slides 45 = .ok (.istore 4, 2) := by decide +kernel
theorem dX12_slides_47 : decode cX12_slides 47 = .ok (.iload 4, 2) := by decide +kernel
theorem dX12_slides_49 : decode cX12_slides 49 = .ok (.ifCond .ge 6, 3) := by decide +kernel
theorem dX12_slides_52 : decode cX12_slides 52 = .ok (.goto 28, 3) := by decide +kernel
theorem dX12_slides_55 : decode cX12_slides 55 = .ok (.aload_n 0, 1) := by decide +kernel
theorem dX12_slides_56 : decode cX12_slides 56 = .ok (.getfield 13, 3) := by decide +kernel
theorem dX12_slides_59 : decode cX12_slides 59 = .ok (.bipush 53, 2) := by decide +kernel
theorem dX12_slides_61 : decode cX12_slides 61 = .ok (.iconst 3, 1) := by decide +kernel
theorem dX12_slides_62 : decode cX12_slides 62 = .ok (.iload_n 3, 1) := by decide +kernel
theorem dX12_slides_63 : decode cX12_slides 63 = .ok (.imul, 1) := by decide +kernel
theorem dX12_slides_64 : decode cX12_slides 64 = .ok (.iadd, 1) := by decide +kernel
theorem dX12_slides_65 : decode cX12_slides 65 = .ok (.iconst 2, 1) := by decide +kernel
theorem dX12_slides_66 : decode cX12_slides 66 = .ok (.iadd, 1) := by decide +kernel
theorem dX12_slides_67 : decode cX12_slides 67 = .ok (.iload 4, 2) := by decide +kernel
theorem dX12_slides_69 : decode cX12_slides 69 = .ok (.iastore, 1) := by decide +kernel
theorem dX12_slides_70 : decode cX12_slides 70 = .ok (.aload_n 0, 1) := by decide +kernel
theorem dX12_slides_71 : decode cX12_slides 71 = .ok (.dup, 1) := by decide +kernel
theorem dX12_slides_72 : decode cX12_slides 72 = .ok (.getfield 319, 3) := by decide +kernel
theorem dX12_slides_75 : decode cX12_slides 75 = .ok (.iconst 1, 1) := by decide +kernel
theorem dX12_slides_76 : decode cX12_slides 76 = .ok (.iadd, 1) := by decide +kernel
theorem dX12_slides_77 : decode cX12_slides 77 = .ok (.putfield 319, 3) := by decide +kernel
theorem dX12_slides_80 : decode cX12_slides 80 = .ok (.iinc 3 1, 3) := by decide +kernel
theorem dX12_slides_83 : decode cX12_slides 83 = .ok (.goto (-66), 3) := by decide +kernel
theorem dX12_slides_86 : decode cX12_slides 86 = .ok (.return_, 1) := by decide +kernel
set_option maxRecDepth 100000 in
def F_X12_slides_b80 (v0 : Nat) (v1 : Int32) (v2 : Int32) (v3 : Int32) (h : Hp) : Option ((Int32 × Hp) ⊕ Hp) :=
  some (.inl (v3 + (1 : Int32), h))
set_option maxHeartbeats 4000000 in
set_option maxRecDepth 100000 in
theorem r_X12_slides_b80 (v0 : Nat) (v1 : Int32) (v2 : Int32) (v3 : Int32) (h : Hp) {x : Cx} {o : ((Int32 × Hp) ⊕ Hp)} (e : F_X12_slides_b80 v0 v1 v2 v3 h = some o) (kI : ∀ z, o = .inl z → V M_X12_slides x 2 17 [(0, .ref v0), (1, .int v1), (2, .int v2), (3, .int z.1)] [] z.2 0 0) (kE86 : ∀ z : Hp, o = .inr z → V M_X12_slides x 2 86 [] [] z 0 0) : V M_X12_slides x 2 80 [(0, .ref v0), (1, .int v1), (2, .int v2), (3, .int v3)] [] h 0 0 := by
  unfold F_X12_slides_b80 at e
  refine V_iinc (pc := 80) (i := 3) (u := v3 + (1 : Int32)) (lv' := [(3, .int (v3 + (1 : Int32))), (0, .ref v0), (1, .int v1), (2, .int v2)]) dX12_slides_80 rfl rfl (by decide) rfl ?_
  refine V_goto (pc := 83) (tgt := 17) dX12_slides_83 (by decide) ?_
  cases e
  exact V_pick [1, 2, 3, 0] rfl (kI (v3 + (1 : Int32), h) rfl)
set_option maxRecDepth 100000 in
def F_X12_slides_b42 (v0 : Nat) (v1 : Int32) (v2 : Int32) (v3 : Int32) (t0 : Nat) (t1 : Int32) (t2 : Int32) (t3 : Int32) (h : Hp) : Option ((Int32 × Hp) ⊕ Hp) :=
  ob (F_X12_besideRoom t0 t1 t2 t3 h) fun r12 => gd (decide (kd h t0 = 11)) <| (if 0 ≤ r12 then gd (decide (kd h v0 = 11)) <| ob (zR h v0 1) fun q15 => gd (decide (kd h q15 = 13)) <| gd (ix (((53 : Int32) + ((3 : Int32) * v3)) + (2 : Int32)) (zl h q15)) <| ob (some (setI (setI h q15 (((53 : Int32) + ((3 : Int32) * v3)) + (2 : Int32)).toNatClampNeg r12) v0 17 ((zI (setI h q15 (((53 : Int32) + ((3 : Int32) * v3)) + (2 : Int32)).toNatClampNeg r12) v0 17) + (1 : Int32)))) fun h19 => F_X12_slides_b80 v0 v1 v2 v3 h19 else F_X12_slides_b80 v0 v1 v2 v3 h)
set_option maxHeartbeats 4000000 in
set_option maxRecDepth 100000 in
theorem r_X12_slides_b42 (v0 : Nat) (v1 : Int32) (v2 : Int32) (v3 : Int32) (t0 : Nat) (t1 : Int32) (t2 : Int32) (t3 : Int32) (h : Hp) {x : Cx} {o : ((Int32 × Hp) ⊕ Hp)} (e : F_X12_slides_b42 v0 v1 v2 v3 t0 t1 t2 t3 h = some o) (kI : ∀ z, o = .inl z → V M_X12_slides x 2 17 [(0, .ref v0), (1, .int v1), (2, .int v2), (3, .int z.1)] [] z.2 0 0) (kE86 : ∀ z : Hp, o = .inr z → V M_X12_slides x 2 86 [] [] z 0 0) : V M_X12_slides x 2 42 [(0, .ref v0), (1, .int v1), (2, .int v2), (3, .int v3)] [.int t3, .int t2, .int t1, .ref t0] h 0 0 := by
  unfold F_X12_slides_b42 at e
  obtain ⟨r12, g11, e⟩ := ob_some e
  obtain ⟨g13, e⟩ := gd_some e
  refine V_callV (pc := 42) (bc := 0) (bs := 0) (mc := 0) (ms := 0) (st := []) (As := [.int t1, .int t2, .int t3]) (a := t0) (h' := h) (r := some (.int r12)) dX12_slides_42 ml_X12_315 (ci := 11) rfl (of_decide_eq_true g13) rfl rfl (Nat.le_of_ble_eq_true rfl) (d' := 1) (by decide) (c_X12_besideRoom (l := x.2.1) t0 t1 t2 t3 h g11) ?_
  refine V_istore (pc := 45) (i := 4) (lv' := [(4, .int r12), (0, .ref v0), (1, .int v1), (2, .int v2), (3, .int v3)]) dX12_slides_45 (by decide) rfl ?_
  refine V_iload (pc := 47) (i := 4) dX12_slides_47 rfl ?_
  refine V_if_ge (pc := 49) (tgt := 55) dX12_slides_49 (by decide) (fun c24 => ?_) (fun c24 => ?_)
  · rw [if_pos c24] at e
    refine V_pick [1, 2, 3, 4, 0] rfl ?_
    refine V_aload_n (pc := 55) (i := 0) dX12_slides_55 rfl rfl ?_
    obtain ⟨g14, e⟩ := gd_some e
    obtain ⟨q15, g16, e⟩ := ob_some e
    refine V_getR (pc := 56) (ci := 11) (k := 1) (b := q15) dX12_slides_56 fl_X12_13 rfl (of_decide_eq_true g14) g16 ?_
    refine V_bipush (pc := 59) (v := (53 : Int32)) dX12_slides_59 (by decide) ?_
    refine V_iconst (pc := 61) (v := (3 : Int32)) dX12_slides_61 (by decide) ?_
    refine V_iload_n (pc := 62) (i := 3) dX12_slides_62 rfl rfl ?_
    refine V_imul (pc := 63) dX12_slides_63 ?_
    refine V_iadd (pc := 64) dX12_slides_64 ?_
    refine V_iconst (pc := 65) (v := (2 : Int32)) dX12_slides_65 (by decide) ?_
    refine V_iadd (pc := 66) dX12_slides_66 ?_
    refine V_iload (pc := 67) (i := 4) dX12_slides_67 rfl ?_
    obtain ⟨g17, e⟩ := gd_some e
    obtain ⟨g18, e⟩ := gd_some e
    refine V_iast (pc := 69) dX12_slides_69 (of_decide_eq_true g17) (ix_in g18) ?_
    refine V_aload_n (pc := 70) (i := 0) dX12_slides_70 rfl rfl ?_
    refine V_dup (pc := 71) dX12_slides_71 rfl ?_
    refine V_getI (pc := 72) (ci := 11) (k := 17) dX12_slides_72 fl_X12_319 rfl (kd_sI (of_decide_eq_true g14)) ?_
    refine V_iconst (pc := 75) (v := (1 : Int32)) dX12_slides_75 (by decide) ?_
    refine V_iadd (pc := 76) dX12_slides_76 ?_
    refine V_putI (pc := 77) (ci := 11) (k := 17) dX12_slides_77 fp_X12_319 rfl (kd_sI (of_decide_eq_true g14)) ?_
    obtain ⟨h19, g20, e⟩ := ob_some e
    refine V_hp (Option.some.inj g20) ?_
    have k21 : kd h19 t0 = 11 := kd_eq (h := (setI (setI h q15 (((53 : Int32) + ((3 : Int32) * v3)) + (2 : Int32)).toNatClampNeg r12) v0 17 ((zI (setI h q15 (((53 : Int32) + ((3 : Int32) * v3)) + (2 : Int32)).toNatClampNeg r12) v0 17) + (1 : Int32)))) (Option.some.inj g20) (kd_sI (kd_sI (of_decide_eq_true g13)))
    have k22 : kd h19 v0 = 11 := kd_eq (h := (setI (setI h q15 (((53 : Int32) + ((3 : Int32) * v3)) + (2 : Int32)).toNatClampNeg r12) v0 17 ((zI (setI h q15 (((53 : Int32) + ((3 : Int32) * v3)) + (2 : Int32)).toNatClampNeg r12) v0 17) + (1 : Int32)))) (Option.some.inj g20) (kd_sI (kd_sI (of_decide_eq_true g14)))
    have k23 : kd h19 q15 = 13 := kd_eq (h := (setI (setI h q15 (((53 : Int32) + ((3 : Int32) * v3)) + (2 : Int32)).toNatClampNeg r12) v0 17 ((zI (setI h q15 (((53 : Int32) + ((3 : Int32) * v3)) + (2 : Int32)).toNatClampNeg r12) v0 17) + (1 : Int32)))) (Option.some.inj g20) (kd_sI (kd_sI (of_decide_eq_true g17)))
    exact V_pick [0, 1, 2, 3] rfl (r_X12_slides_b80 v0 v1 v2 v3 h19 e kI kE86)
  · rw [if_neg c24] at e
    refine V_pick [1, 2, 3, 4] rfl ?_
    refine V_goto (pc := 52) (tgt := 80) dX12_slides_52 (by decide) ?_
    exact V_pick [0, 1, 2, 3] rfl (r_X12_slides_b80 v0 v1 v2 v3 h e kI kE86)
set_option maxRecDepth 100000 in
def F_X12_slides_l17 (v0 : Nat) (v1 : Int32) (v2 : Int32) (v3 : Int32) (h : Hp) : Option ((Int32 × Hp) ⊕ Hp) :=
  ob (F_X12_trunks v0 h) fun r7 => gd (decide (kd h v0 = 11)) <| (if r7 ≤ v3 then some (.inr h) else ob (F_X12_ofTrunk v0 v3 (2 : Int32) h) fun r10 => (if v2 ≤ 0 then F_X12_slides_b42 v0 v1 v2 v3 v0 r10 v1 (0 : Int32) h else F_X12_slides_b42 v0 v1 v2 v3 v0 r10 v1 (1 : Int32) h))
set_option maxHeartbeats 4000000 in
set_option maxRecDepth 100000 in
theorem r_X12_slides_l17 (v0 : Nat) (v1 : Int32) (v2 : Int32) (v3 : Int32) (h : Hp) {x : Cx} {o : ((Int32 × Hp) ⊕ Hp)} (e : F_X12_slides_l17 v0 v1 v2 v3 h = some o) (kI : ∀ z, o = .inl z → V M_X12_slides x 2 17 [(0, .ref v0), (1, .int v1), (2, .int v2), (3, .int z.1)] [] z.2 0 0) (kE86 : ∀ z : Hp, o = .inr z → V M_X12_slides x 2 86 [] [] z 0 0) : V M_X12_slides x 2 17 [(0, .ref v0), (1, .int v1), (2, .int v2), (3, .int v3)] [] h 0 0 := by
  unfold F_X12_slides_l17 at e
  refine V_iload_n (pc := 17) (i := 3) dX12_slides_17 rfl rfl ?_
  refine V_aload_n (pc := 18) (i := 0) dX12_slides_18 rfl rfl ?_
  obtain ⟨r7, g6, e⟩ := ob_some e
  obtain ⟨g8, e⟩ := gd_some e
  refine V_callV (pc := 19) (bc := 0) (bs := 0) (mc := 0) (ms := 0) (st := [.int v3]) (As := []) (a := v0) (h' := h) (r := some (.int r7)) dX12_slides_19 ml_X12_71 (ci := 11) rfl (of_decide_eq_true g8) rfl rfl (Nat.le_of_ble_eq_true rfl) (d' := 0) (by decide) (c_X12_trunks (l := x.2.1) v0 h g6) ?_
  refine V_icmp_ge (pc := 22) (tgt := 86) dX12_slides_22 (by decide) (fun c26 => ?_) (fun c26 => ?_)
  · rw [if_pos c26] at e
    cases e
    exact V_pick [] rfl (kE86 h rfl)
  · rw [if_neg c26] at e
    refine V_pick [0, 1, 2, 3] rfl ?_
    refine V_aload_n (pc := 25) (i := 0) dX12_slides_25 rfl rfl ?_
    refine V_aload_n (pc := 26) (i := 0) dX12_slides_26 rfl rfl ?_
    refine V_iload_n (pc := 27) (i := 3) dX12_slides_27 rfl rfl ?_
    refine V_iconst (pc := 28) (v := (2 : Int32)) dX12_slides_28 (by decide) ?_
    obtain ⟨r10, g9, e⟩ := ob_some e
    refine V_callV (pc := 29) (bc := 0) (bs := 0) (mc := 0) (ms := 0) (st := [.ref v0]) (As := [.int v3, .int (2 : Int32)]) (a := v0) (h' := h) (r := some (.int r10)) dX12_slides_29 ml_X12_265 (ci := 11) rfl (of_decide_eq_true g8) rfl rfl (Nat.le_of_ble_eq_true rfl) (d' := 0) (by decide) (c_X12_ofTrunk (l := x.2.1) v0 v3 (2 : Int32) h g9) ?_
    refine V_iload_n (pc := 32) (i := 1) dX12_slides_32 rfl rfl ?_
    refine V_iload_n (pc := 33) (i := 2) dX12_slides_33 rfl rfl ?_
    refine V_if_le (pc := 34) (tgt := 41) dX12_slides_34 (by decide) (fun c25 => ?_) (fun c25 => ?_)
    · rw [if_pos c25] at e
      refine V_pick [0, 1, 2, 3] rfl ?_
      refine V_iconst (pc := 41) (v := (0 : Int32)) dX12_slides_41 (by decide) ?_
      exact V_pick [0, 1, 2, 3] rfl (r_X12_slides_b42 v0 v1 v2 v3 v0 r10 v1 (0 : Int32) h e kI kE86)
    · rw [if_neg c25] at e
      refine V_pick [0, 1, 2, 3] rfl ?_
      refine V_iconst (pc := 37) (v := (1 : Int32)) dX12_slides_37 (by decide) ?_
      refine V_goto (pc := 38) (tgt := 42) dX12_slides_38 (by decide) ?_
      exact V_pick [0, 1, 2, 3] rfl (r_X12_slides_b42 v0 v1 v2 v3 v0 r10 v1 (1 : Int32) h e kI kE86)
set_option maxRecDepth 100000 in
def F_X12_slides_b0 (v0 : Nat) (v1 : Int32) (v2 : Int32) (h : Hp) : Option (Unit × Hp) :=
  gd (decide (kd h v0 = 11)) <| ob (zR h v0 1) fun q2 => gd (decide (kd h q2 = 13)) <| gd (ix (9 : Int32) (zl h q2)) <| (if (zI h q2 ((9 : Int32)).toNatClampNeg) < (jabs v2) then ob (iter (fun z : Int32 × Hp => F_X12_slides_l17 v0 v1 v2 z.1 z.2) FU ((0 : Int32), h)) (fun h27 => some ((), h27)) else some ((), h))
set_option maxHeartbeats 4000000 in
set_option maxRecDepth 100000 in
theorem r_X12_slides_b0 (v0 : Nat) (v1 : Int32) (v2 : Int32) (h : Hp) {x : Cx} {r : Unit} {hz : Hp} (e : F_X12_slides_b0 v0 v1 v2 h = some (r, hz)) (hF : Fin9 M_X12_slides x none none hz) : V M_X12_slides x 2 0 [(0, .ref v0), (1, .int v1), (2, .int v2)] [] h 0 0 := by
  unfold F_X12_slides_b0 at e
  refine V_iload_n (pc := 0) (i := 2) dX12_slides_0 rfl rfl ?_
  refine V_abs (pc := 1) dX12_slides_1 wm_X12_74 (by decide) (Nat.le_of_ble_eq_true rfl) ?_
  refine V_aload_n (pc := 4) (i := 0) dX12_slides_4 rfl rfl ?_
  obtain ⟨g1, e⟩ := gd_some e
  obtain ⟨q2, g3, e⟩ := ob_some e
  refine V_getR (pc := 5) (ci := 11) (k := 1) (b := q2) dX12_slides_5 fl_X12_13 rfl (of_decide_eq_true g1) g3 ?_
  refine V_bipush (pc := 8) (v := (9 : Int32)) dX12_slides_8 (by decide) ?_
  obtain ⟨g4, e⟩ := gd_some e
  obtain ⟨g5, e⟩ := gd_some e
  refine V_iald (pc := 10) dX12_slides_10 (of_decide_eq_true g4) (ix_in g5) ?_
  refine V_icmp_gt (pc := 11) (tgt := 15) dX12_slides_11 (by decide) (fun c30 => ?_) (fun c30 => ?_)
  · rw [if_pos c30] at e
    refine V_pick [0, 1, 2] rfl ?_
    refine V_iconst (pc := 15) (v := (0 : Int32)) dX12_slides_15 (by decide) ?_
    refine V_istore_n (pc := 16) (i := 3) (lv' := [(3, .int (0 : Int32)), (0, .ref v0), (1, .int v1), (2, .int v2)]) dX12_slides_16 rfl (by decide) rfl ?_
    refine V_pick [1, 2, 3, 0] rfl ?_
    obtain ⟨y28, g29, e⟩ := ob_some e
    refine iter_V (P := fun z : Int32 × Hp => V M_X12_slides x 2 17 [(0, .ref v0), (1, .int v1), (2, .int v2), (3, .int z.1)] [] z.2 0 0) (E := fun z : Hp => V M_X12_slides x 2 86 [] [] z 0 0) (fun z o e9 k1 k2 => r_X12_slides_l17 v0 v1 v2 z.1 z.2 e9 (fun z hz9 => k1 z hz9) (fun z hz9 => k2 _ hz9)) _ _ _ g29 ?_
    clear g29
    obtain ⟨h27, rfl⟩ : ∃ q, q = y28 := ⟨_, rfl⟩
    replace e : (some ((), h27)) = some (r, hz) := e
    show V M_X12_slides x 2 86 [] [] h27 0 0
    cases e
    exact V_vret (pc := 86) dX12_slides_86 hF
  · rw [if_neg c30] at e
    refine V_pick [] rfl ?_
    cases e
    exact V_vret (pc := 14) dX12_slides_14 hF
def F_X12_slides (v0 : Nat) (v1 : Int32) (v2 : Int32) (h : Hp) : Option (Unit × Hp) := F_X12_slides_b0 v0 v1 v2 h
theorem c_X12_slides {l : Launch} (v0 : Nat) (v1 : Int32) (v2 : Int32) (h : Hp) {r : Unit} {hz : Hp} (e : F_X12_slides v0 v1 v2 h = some (r, hz)) : Ct l yX12_slides M_X12_slides none 2 [.ref v0, .int v1, .int v2] h 0 0 none hz :=
  Ct_of rfl rfl (fun q => by cases q) (Nat.le_of_ble_eq_true rfl) (fun x _ hF => V_pick [0, 1, 2] rfl (r_X12_slides_b0 v0 v1 v2 h e hF))
theorem dX12_passesDay_0 : decode cX12_passesDay 0 = .ok (.aload_n 0, 1) := by decide +kernel
theorem dX12_passesDay_1 : decode cX12_passesDay 1 = .ok (.invokevirtual 290, 3) := by decide +kernel
theorem dX12_passesDay_4 : decode cX12_passesDay 4 = .ok (.aload_n 0, 1) := by decide +kernel
theorem dX12_passesDay_5 : decode cX12_passesDay 5 = .ok (.iconst 0, 1) := by decide +kernel
theorem dX12_passesDay_6 : decode cX12_passesDay 6 = .ok (.putfield 319, 3) := by decide +kernel
theorem dX12_passesDay_9 : decode cX12_passesDay 9 = .ok (.aload_n 0, 1) := by decide +kernel
theorem dX12_passesDay_10 : decode cX12_passesDay 10 = .ok (.iconst (-1), 1) := by decide +kernel
theorem dX12_passesDay_11 : decode cX12_passesDay 11 = .ok (.putfield 322, 3) := by decide +kernel
theorem dX12_passesDay_14 : decode cX12_passesDay 14 = .ok (.iconst 0, 1) := by decide +kernel
theorem dX12_passesDay_15 : decode cX12_passesDay 15 = .ok (.istore_n 1, 1) := by decide +kernel
theorem dX12_passesDay_16 : decode cX12_passesDay 16 = .ok (.iconst 0, 1) := by decide +kernel
theorem dX12_passesDay_17 : decode cX12_passesDay 17 = .ok (.istore_n 2, 1) := by decide +kernel
theorem dX12_passesDay_18 : decode cX12_passesDay 18 = .ok (.iload_n 2, 1) := by decide +kernel
theorem dX12_passesDay_19 : decode cX12_passesDay 19 = .ok (.sipush 1000, 3) := by decide +kernel
theorem dX12_passesDay_22 : decode cX12_passesDay 22 = .ok (.if_icmp .ge 116, 3) := by decide +kernel
theorem dX12_passesDay_25 : decode cX12_passesDay 25 = .ok (.iload_n 1, 1) := by decide +kernel
theorem dX12_passesDay_26 : decode cX12_passesDay 26 = .ok (.aload_n 0, 1) := by decide +kernel
theorem dX12_passesDay_27 : decode cX12_passesDay 27 = .ok (.getfield 13, 3) := by decide +kernel
theorem dX12_passesDay_30 : decode cX12_passesDay 30 = .ok (.iconst 4, 1) := by decide +kernel
theorem dX12_passesDay_31 : decode cX12_passesDay 31 = .ok (.iaload, 1) := by decide +kernel
theorem dX12_passesDay_32 : decode cX12_passesDay 32 = .ok (.if_icmp .ge 55, 3) := by decide +kernel
theorem dX12_passesDay_35 : decode cX12_passesDay 35 = .ok (.aload_n 0, 1) := by decide +kernel
theorem dX12_passesDay_36 : decode cX12_passesDay 36 = .ok (.getfield 13, 3) := by decide +kernel
theorem dX12_passesDay_39 : decode cX12_passesDay 39 = .ok (.bipush 71, 2) := by decide +kernel
theorem dX12_passesDay_41 : decode cX12_passesDay 41 = .ok (.iconst 3, 1) := by decide +kernel
theorem dX12_passesDay_42 : decode cX12_passesDay 42 = .ok (.iload_n 1, 1) := by decide +kernel
theorem dX12_passesDay_43 : decode cX12_passesDay 43 = .ok (.imul, 1) := by decide +kernel
theorem dX12_passesDay_44 : decode cX12_passesDay 44 = .ok (.iadd, 1) := by decide +kernel
theorem dX12_passesDay_45 : decode cX12_passesDay 45 = .ok (.iaload, 1) := by decide +kernel
theorem dX12_passesDay_46 : decode cX12_passesDay 46 = .ok (.iload_n 2, 1) := by decide +kernel
theorem dX12_passesDay_47 : decode cX12_passesDay 47 = .ok (.if_icmp .ne 40, 3) := by decide +kernel
theorem dX12_passesDay_50 : decode cX12_passesDay 50 = .ok (.aload_n 0, 1) := by decide +kernel
theorem dX12_passesDay_51 : decode cX12_passesDay 51 = .ok (.getfield 36, 3) := by decide +kernel
theorem dX12_passesDay_54 : decode cX12_passesDay 54 = .ok (.aload_n 0, 1) := by decide +kernel
theorem dX12_passesDay_55 : decode cX12_passesDay 55 = .ok (.getfield 13, 3) := by decide +kernel
theorem dX12_passesDay_58 : decode cX12_passesDay 58 = .ok (.bipush 71, 2) := by decide +kernel
theorem dX12_passesDay_60 : decode cX12_passesDay 60 = .ok (.iconst 3, 1) := by decide +kernel
theorem dX12_passesDay_61 : decode cX12_passesDay 61 = .ok (.iload_n 1, 1) := by decide +kernel
theorem dX12_passesDay_62 : decode cX12_passesDay 62 = .ok (.imul, 1) := by decide +kernel
theorem dX12_passesDay_63 : decode cX12_passesDay 63 = .ok (.iadd, 1) := by decide +kernel
theorem dX12_passesDay_64 : decode cX12_passesDay 64 = .ok (.iconst 1, 1) := by decide +kernel
theorem dX12_passesDay_65 : decode cX12_passesDay 65 = .ok (.iadd, 1) := by decide +kernel
theorem dX12_passesDay_66 : decode cX12_passesDay 66 = .ok (.iaload, 1) := by decide +kernel
theorem dX12_passesDay_67 : decode cX12_passesDay 67 = .ok (.aload_n 0, 1) := by decide +kernel
theorem dX12_passesDay_68 : decode cX12_passesDay 68 = .ok (.getfield 13, 3) := by decide +kernel
theorem dX12_passesDay_71 : decode cX12_passesDay 71 = .ok (.bipush 71, 2) := by decide +kernel
theorem dX12_passesDay_73 : decode cX12_passesDay 73 = .ok (.iconst 3, 1) := by decide +kernel
theorem dX12_passesDay_74 : decode cX12_passesDay 74 = .ok (.iload_n 1, 1) := by decide +kernel
theorem dX12_passesDay_75 : decode cX12_passesDay 75 = .ok (.imul, 1) := by decide +kernel
theorem dX12_passesDay_76 : decode cX12_passesDay 76 = .ok (.iadd, 1) := by decide +kernel
theorem dX12_passesDay_77 : decode cX12_passesDay 77 = .ok (.iconst 2, 1) := by decide +kernel
theorem dX12_passesDay_78 : decode cX12_passesDay 78 = .ok (.iadd, 1) := by decide +kernel
theorem dX12_passesDay_79 : decode cX12_passesDay 79 = .ok (.iaload, 1) := by decide +kernel
theorem dX12_passesDay_80 : decode cX12_passesDay 80 = .ok (.iastore, 1) := by decide +kernel
theorem dX12_passesDay_81 : decode cX12_passesDay 81 = .ok (.iinc 1 1, 3) := by decide +kernel
theorem dX12_passesDay_84 : decode cX12_passesDay 84 = .ok (.goto (-59), 3) := by decide +kernel
theorem dX12_passesDay_87 : decode cX12_passesDay 87 = .ok (.aload_n 0, 1) := by decide +kernel
theorem dX12_passesDay_88 : decode cX12_passesDay 88 = .ok (.iconst 0, 1) := by decide +kernel
theorem dX12_passesDay_89 : decode cX12_passesDay 89 = .ok (.invokevirtual 278, 3) := by decide +kernel
theorem dX12_passesDay_92 : decode cX12_passesDay 92 = .ok (.istore_n 3, 1) := by decide +kernel
theorem dX12_passesDay_93 : decode cX12_passesDay 93 = .ok (.aload_n 0, 1) := by decide +kernel
theorem dX12_passesDay_94 : decode cX12_passesDay 94 = .ok (.iconst 1, 1) := by decide +kernel
theorem dX12_passesDay_95 : decode cX12_passesDay 95 = .ok (.invokevirtual 278, 3) := by decide +kernel
theorem dX12_passesDay_98 : decode cX12_passesDay 98 = .ok (.istore 4, 2) := by decide +kernel
theorem dX12_passesDay_100 : decode cX12_passesDay 100 = .ok (.aload_n 0, 1) := by decide +kernel
theorem dX12_passesDay_101 : decode cX12_passesDay 101 = .ok (.iconst 0, 1) := by decide +kernel
theorem dX12_passesDay_102 : decode cX12_passesDay 102 = .ok (.iload_n 3, 1) := by decide +kernel
theorem dX12_passesDay_103 : decode cX12_passesDay 103 = .ok (.invokevirtual 325, 3) := by decide +kernel
theorem dX12_passesDay_106 : decode cX12_passesDay 106 = .ok (.aload_n 0, 1) := by decide +kernel
theorem dX12_passesDay_107 : decode cX12_passesDay 107 = .ok (.iconst 1, 1) := by decide +kernel
theorem dX12_passesDay_108 : decode cX12_passesDay 108 = .ok (.iload 4, 2) := by decide +kernel
theorem dX12_passesDay_110 : decode cX12_passesDay 110 = .ok (.invokevirtual 325, 3) := by decide +kernel
theorem dX12_passesDay_113 : decode cX12_passesDay 113 = .ok (.aload_n 0, 1) := by decide +kernel
theorem dX12_passesDay_114 : decode cX12_passesDay 114 = .ok (.getfield 322, 3) := by decide +kernel
theorem dX12_passesDay_117 : decode cX12_passesDay 117 = .ok (.ifCond .ge 15, 3) := by decide +kernel
theorem dX12_passesDay_120 : decode cX12_passesDay 120 = .ok (.aload_n 0, 1) := by decide +kernel
theorem dX12_passesDay_121 : decode cX12_passesDay 121 = .ok (.invokevirtual 293, 3) := by decide +kernel
theorem dX12_passesDay_124 : decode cX12_passesDay 124 = .ok (.ifCond .ne 8, 3) := by decide +kernel
theorem dX12_passesDay_127 : decode cX12_passesDay 127 = .ok (.aload_n 0, 1) := by decide +kernel
theorem dX12_passesDay_128 : decode cX12_passesDay 128 = .ok (.iload_n 2, 1) := by decide +kernel
theorem dX12_passesDay_129 : decode cX12_passesDay 129 = .ok (.putfield 322, 3) := by decide +kernel
theorem dX12_passesDay_132 : decode cX12_passesDay 132 = .ok (.iinc 2 1, 3) := by decide +kernel
theorem dX12_passesDay_135 : decode cX12_passesDay 135 = .ok (.goto (-117), 3) := by decide +kernel
theorem dX12_passesDay_138 : decode cX12_passesDay 138 = .ok (.return_, 1) := by decide +kernel
set_option maxRecDepth 100000 in
def F_X12_passesDay_l25 (v0 : Nat) (v1 : Int32) (v2 : Int32) (h : Hp) : Option ((Int32 × Hp) ⊕ (Int32 × Hp)) :=
  gd (decide (kd h v0 = 11)) <| ob (zR h v0 1) fun q7 => gd (decide (kd h q7 = 13)) <| gd (ix (4 : Int32) (zl h q7)) <| (if (zI h q7 ((4 : Int32)).toNatClampNeg) ≤ v1 then some (.inr (v1, h)) else ob (zR h v0 1) fun q11 => gd (decide (kd h q11 = 13)) <| gd (ix ((71 : Int32) + ((3 : Int32) * v1)) (zl h q11)) <| (if (zI h q11 ((71 : Int32) + ((3 : Int32) * v1)).toNatClampNeg) = v2 then ob (zR h v0 15) fun q15 => ob (zR h v0 1) fun q17 => gd (decide (kd h q17 = 13)) <| gd (ix (((71 : Int32) + ((3 : Int32) * v1)) + (1 : Int32)) (zl h q17)) <| ob (zR h v0 1) fun q21 => gd (decide (kd h q21 = 13)) <| gd (ix (((71 : Int32) + ((3 : Int32) * v1)) + (2 : Int32)) (zl h q21)) <| gd (decide (kd h q15 = 13)) <| gd (ix (zI h q17 (((71 : Int32) + ((3 : Int32) * v1)) + (1 : Int32)).toNatClampNeg) (zl h q15)) <| ob (some (setI h q15 (zI h q17 (((71 : Int32) + ((3 : Int32) * v1)) + (1 : Int32)).toNatClampNeg).toNatClampNeg (zI h q21 (((71 : Int32) + ((3 : Int32) * v1)) + (2 : Int32)).toNatClampNeg))) fun h27 => some (.inl (v1 + (1 : Int32), h27)) else some (.inr (v1, h))))
set_option maxHeartbeats 4000000 in
set_option maxRecDepth 100000 in
theorem r_X12_passesDay_l25 (v0 : Nat) (v1 : Int32) (v2 : Int32) (h : Hp) {x : Cx} {o : ((Int32 × Hp) ⊕ (Int32 × Hp))} (e : F_X12_passesDay_l25 v0 v1 v2 h = some o) (kI : ∀ z, o = .inl z → V M_X12_passesDay x 6 25 [(0, .ref v0), (1, .int z.1), (2, .int v2)] [] z.2 0 0) (kE87 : ∀ z : Int32 × Hp, o = .inr z → V M_X12_passesDay x 6 87 [(0, .ref v0), (1, .int z.1), (2, .int v2)] [] z.2 0 0) : V M_X12_passesDay x 6 25 [(0, .ref v0), (1, .int v1), (2, .int v2)] [] h 0 0 := by
  unfold F_X12_passesDay_l25 at e
  refine V_iload_n (pc := 25) (i := 1) dX12_passesDay_25 rfl rfl ?_
  refine V_aload_n (pc := 26) (i := 0) dX12_passesDay_26 rfl rfl ?_
  obtain ⟨g6, e⟩ := gd_some e
  obtain ⟨q7, g8, e⟩ := ob_some e
  refine V_getR (pc := 27) (ci := 11) (k := 1) (b := q7) dX12_passesDay_27 fl_X12_13 rfl (of_decide_eq_true g6) g8 ?_
  refine V_iconst (pc := 30) (v := (4 : Int32)) dX12_passesDay_30 (by decide) ?_
  obtain ⟨g9, e⟩ := gd_some e
  obtain ⟨g10, e⟩ := gd_some e
  refine V_iald (pc := 31) dX12_passesDay_31 (of_decide_eq_true g9) (ix_in g10) ?_
  refine V_icmp_ge (pc := 32) (tgt := 87) dX12_passesDay_32 (by decide) (fun c36 => ?_) (fun c36 => ?_)
  · rw [if_pos c36] at e
    cases e
    exact V_pick [0, 1, 2] rfl (kE87 (v1, h) rfl)
  · rw [if_neg c36] at e
    refine V_pick [0, 1, 2] rfl ?_
    refine V_aload_n (pc := 35) (i := 0) dX12_passesDay_35 rfl rfl ?_
    obtain ⟨q11, g12, e⟩ := ob_some e
    refine V_getR (pc := 36) (ci := 11) (k := 1) (b := q11) dX12_passesDay_36 fl_X12_13 rfl (of_decide_eq_true g6) g12 ?_
    refine V_bipush (pc := 39) (v := (71 : Int32)) dX12_passesDay_39 (by decide) ?_
    refine V_iconst (pc := 41) (v := (3 : Int32)) dX12_passesDay_41 (by decide) ?_
    refine V_iload_n (pc := 42) (i := 1) dX12_passesDay_42 rfl rfl ?_
    refine V_imul (pc := 43) dX12_passesDay_43 ?_
    refine V_iadd (pc := 44) dX12_passesDay_44 ?_
    obtain ⟨g13, e⟩ := gd_some e
    obtain ⟨g14, e⟩ := gd_some e
    refine V_iald (pc := 45) dX12_passesDay_45 (of_decide_eq_true g13) (ix_in g14) ?_
    refine V_iload_n (pc := 46) (i := 2) dX12_passesDay_46 rfl rfl ?_
    refine V_icmp_ne (pc := 47) (tgt := 87) dX12_passesDay_47 (by decide) (fun c35 => ?_) (fun c35 => ?_)
    · rw [if_neg c35] at e
      cases e
      exact V_pick [0, 1, 2] rfl (kE87 (v1, h) rfl)
    · rw [if_pos c35] at e
      refine V_pick [0, 1, 2] rfl ?_
      refine V_aload_n (pc := 50) (i := 0) dX12_passesDay_50 rfl rfl ?_
      obtain ⟨q15, g16, e⟩ := ob_some e
      refine V_getR (pc := 51) (ci := 11) (k := 15) (b := q15) dX12_passesDay_51 fl_X12_36 rfl (of_decide_eq_true g6) g16 ?_
      refine V_aload_n (pc := 54) (i := 0) dX12_passesDay_54 rfl rfl ?_
      obtain ⟨q17, g18, e⟩ := ob_some e
      refine V_getR (pc := 55) (ci := 11) (k := 1) (b := q17) dX12_passesDay_55 fl_X12_13 rfl (of_decide_eq_true g6) g18 ?_
      refine V_bipush (pc := 58) (v := (71 : Int32)) dX12_passesDay_58 (by decide) ?_
      refine V_iconst (pc := 60) (v := (3 : Int32)) dX12_passesDay_60 (by decide) ?_
      refine V_iload_n (pc := 61) (i := 1) dX12_passesDay_61 rfl rfl ?_
      refine V_imul (pc := 62) dX12_passesDay_62 ?_
      refine V_iadd (pc := 63) dX12_passesDay_63 ?_
      refine V_iconst (pc := 64) (v := (1 : Int32)) dX12_passesDay_64 (by decide) ?_
      refine V_iadd (pc := 65) dX12_passesDay_65 ?_
      obtain ⟨g19, e⟩ := gd_some e
      obtain ⟨g20, e⟩ := gd_some e
      refine V_iald (pc := 66) dX12_passesDay_66 (of_decide_eq_true g19) (ix_in g20) ?_
      refine V_aload_n (pc := 67) (i := 0) dX12_passesDay_67 rfl rfl ?_
      obtain ⟨q21, g22, e⟩ := ob_some e
      refine V_getR (pc := 68) (ci := 11) (k := 1) (b := q21) dX12_passesDay_68 fl_X12_13 rfl (of_decide_eq_true g6) g22 ?_
      refine V_bipush (pc := 71) (v := (71 : Int32)) dX12_passesDay_71 (by decide) ?_
      refine V_iconst (pc := 73) (v := (3 : Int32)) dX12_passesDay_73 (by decide) ?_
      refine V_iload_n (pc := 74) (i := 1) dX12_passesDay_74 rfl rfl ?_
      refine V_imul (pc := 75) dX12_passesDay_75 ?_
      refine V_iadd (pc := 76) dX12_passesDay_76 ?_
      refine V_iconst (pc := 77) (v := (2 : Int32)) dX12_passesDay_77 (by decide) ?_
      refine V_iadd (pc := 78) dX12_passesDay_78 ?_
      obtain ⟨g23, e⟩ := gd_some e
      obtain ⟨g24, e⟩ := gd_some e
      refine V_iald (pc := 79) dX12_passesDay_79 (of_decide_eq_true g23) (ix_in g24) ?_
      obtain ⟨g25, e⟩ := gd_some e
      obtain ⟨g26, e⟩ := gd_some e
      refine V_iast (pc := 80) dX12_passesDay_80 (of_decide_eq_true g25) (ix_in g26) ?_
      obtain ⟨h27, g28, e⟩ := ob_some e
      refine V_hp (Option.some.inj g28) ?_
      have k29 : kd h27 v0 = 11 := kd_eq (h := (setI h q15 (zI h q17 (((71 : Int32) + ((3 : Int32) * v1)) + (1 : Int32)).toNatClampNeg).toNatClampNeg (zI h q21 (((71 : Int32) + ((3 : Int32) * v1)) + (2 : Int32)).toNatClampNeg))) (Option.some.inj g28) (kd_sI (of_decide_eq_true g6))
      have k30 : kd h27 q7 = 13 := kd_eq (h := (setI h q15 (zI h q17 (((71 : Int32) + ((3 : Int32) * v1)) + (1 : Int32)).toNatClampNeg).toNatClampNeg (zI h q21 (((71 : Int32) + ((3 : Int32) * v1)) + (2 : Int32)).toNatClampNeg))) (Option.some.inj g28) (kd_sI (of_decide_eq_true g9))
      have k31 : kd h27 q11 = 13 := kd_eq (h := (setI h q15 (zI h q17 (((71 : Int32) + ((3 : Int32) * v1)) + (1 : Int32)).toNatClampNeg).toNatClampNeg (zI h q21 (((71 : Int32) + ((3 : Int32) * v1)) + (2 : Int32)).toNatClampNeg))) (Option.some.inj g28) (kd_sI (of_decide_eq_true g13))
      have k32 : kd h27 q17 = 13 := kd_eq (h := (setI h q15 (zI h q17 (((71 : Int32) + ((3 : Int32) * v1)) + (1 : Int32)).toNatClampNeg).toNatClampNeg (zI h q21 (((71 : Int32) + ((3 : Int32) * v1)) + (2 : Int32)).toNatClampNeg))) (Option.some.inj g28) (kd_sI (of_decide_eq_true g19))
      have k33 : kd h27 q21 = 13 := kd_eq (h := (setI h q15 (zI h q17 (((71 : Int32) + ((3 : Int32) * v1)) + (1 : Int32)).toNatClampNeg).toNatClampNeg (zI h q21 (((71 : Int32) + ((3 : Int32) * v1)) + (2 : Int32)).toNatClampNeg))) (Option.some.inj g28) (kd_sI (of_decide_eq_true g23))
      have k34 : kd h27 q15 = 13 := kd_eq (h := (setI h q15 (zI h q17 (((71 : Int32) + ((3 : Int32) * v1)) + (1 : Int32)).toNatClampNeg).toNatClampNeg (zI h q21 (((71 : Int32) + ((3 : Int32) * v1)) + (2 : Int32)).toNatClampNeg))) (Option.some.inj g28) (kd_sI (of_decide_eq_true g25))
      refine V_iinc (pc := 81) (i := 1) (u := v1 + (1 : Int32)) (lv' := [(1, .int (v1 + (1 : Int32))), (0, .ref v0), (2, .int v2)]) dX12_passesDay_81 rfl rfl (by decide) rfl ?_
      refine V_goto (pc := 84) (tgt := 25) dX12_passesDay_84 (by decide) ?_
      cases e
      exact V_pick [1, 0, 2] rfl (kI (v1 + (1 : Int32), h27) rfl)
set_option maxRecDepth 100000 in
def F_X12_passesDay_b132 (v0 : Nat) (v1 : Int32) (v2 : Int32) (h : Hp) : Option ((Int32 × Int32 × Hp) ⊕ Hp) :=
  some (.inl (v1, v2 + (1 : Int32), h))
set_option maxHeartbeats 4000000 in
set_option maxRecDepth 100000 in
theorem r_X12_passesDay_b132 (v0 : Nat) (v1 : Int32) (v2 : Int32) (h : Hp) {x : Cx} {o : ((Int32 × Int32 × Hp) ⊕ Hp)} (e : F_X12_passesDay_b132 v0 v1 v2 h = some o) (kI : ∀ z, o = .inl z → V M_X12_passesDay x 6 18 [(0, .ref v0), (1, .int z.1), (2, .int z.2.1)] [] z.2.2 0 0) (kE138 : ∀ z : Hp, o = .inr z → V M_X12_passesDay x 6 138 [] [] z 0 0) : V M_X12_passesDay x 6 132 [(0, .ref v0), (1, .int v1), (2, .int v2)] [] h 0 0 := by
  unfold F_X12_passesDay_b132 at e
  refine V_iinc (pc := 132) (i := 2) (u := v2 + (1 : Int32)) (lv' := [(2, .int (v2 + (1 : Int32))), (0, .ref v0), (1, .int v1)]) dX12_passesDay_132 rfl rfl (by decide) rfl ?_
  refine V_goto (pc := 135) (tgt := 18) dX12_passesDay_135 (by decide) ?_
  cases e
  exact V_pick [1, 2, 0] rfl (kI (v1, v2 + (1 : Int32), h) rfl)
set_option maxRecDepth 100000 in
def F_X12_passesDay_b87 (v0 : Nat) (v1 : Int32) (v2 : Int32) (h : Hp) : Option ((Int32 × Int32 × Hp) ⊕ Hp) :=
  ob (F_X12_net v0 (0 : Int32) h) fun r40 => gd (decide (kd h v0 = 11)) <| ob (F_X12_net v0 (1 : Int32) h) fun r43 => ob2 (F_X12_slides v0 (0 : Int32) r40 h) fun _ h46 => ob2 (F_X12_slides v0 (1 : Int32) r43 h46) fun _ h49 => gd (decide (kd h46 v0 = 11)) <| gd (decide (kd h49 v0 = 11)) <| (if 0 ≤ (zI h49 v0 18) then F_X12_passesDay_b132 v0 v1 v2 h49 else ob (F_X12_isLevel v0 h49) fun r53 => (if r53 = 0 then F_X12_passesDay_b132 v0 v1 v2 (setI h49 v0 18 v2) else F_X12_passesDay_b132 v0 v1 v2 h49))
set_option maxHeartbeats 4000000 in
set_option maxRecDepth 100000 in
theorem r_X12_passesDay_b87 (v0 : Nat) (v1 : Int32) (v2 : Int32) (h : Hp) {x : Cx} {o : ((Int32 × Int32 × Hp) ⊕ Hp)} (e : F_X12_passesDay_b87 v0 v1 v2 h = some o) (kI : ∀ z, o = .inl z → V M_X12_passesDay x 6 18 [(0, .ref v0), (1, .int z.1), (2, .int z.2.1)] [] z.2.2 0 0) (kE138 : ∀ z : Hp, o = .inr z → V M_X12_passesDay x 6 138 [] [] z 0 0) : V M_X12_passesDay x 6 87 [(0, .ref v0), (1, .int v1), (2, .int v2)] [] h 0 0 := by
  unfold F_X12_passesDay_b87 at e
  refine V_aload_n (pc := 87) (i := 0) dX12_passesDay_87 rfl rfl ?_
  refine V_iconst (pc := 88) (v := (0 : Int32)) dX12_passesDay_88 (by decide) ?_
  obtain ⟨r40, g39, e⟩ := ob_some e
  obtain ⟨g41, e⟩ := gd_some e
  refine V_callV (pc := 89) (bc := 0) (bs := 0) (mc := 0) (ms := 0) (st := []) (As := [.int (0 : Int32)]) (a := v0) (h' := h) (r := some (.int r40)) dX12_passesDay_89 ml_X12_278 (ci := 11) rfl (of_decide_eq_true g41) rfl rfl (Nat.le_of_ble_eq_true rfl) (d' := 4) (by decide) (c_X12_net (l := x.2.1) v0 (0 : Int32) h g39) ?_
  refine V_istore_n (pc := 92) (i := 3) (lv' := [(3, .int r40), (0, .ref v0), (1, .int v1), (2, .int v2)]) dX12_passesDay_92 rfl (by decide) rfl ?_
  refine V_aload_n (pc := 93) (i := 0) dX12_passesDay_93 rfl rfl ?_
  refine V_iconst (pc := 94) (v := (1 : Int32)) dX12_passesDay_94 (by decide) ?_
  obtain ⟨r43, g42, e⟩ := ob_some e
  refine V_callV (pc := 95) (bc := 0) (bs := 0) (mc := 0) (ms := 0) (st := []) (As := [.int (1 : Int32)]) (a := v0) (h' := h) (r := some (.int r43)) dX12_passesDay_95 ml_X12_278 (ci := 11) rfl (of_decide_eq_true g41) rfl rfl (Nat.le_of_ble_eq_true rfl) (d' := 4) (by decide) (c_X12_net (l := x.2.1) v0 (1 : Int32) h g42) ?_
  refine V_istore (pc := 98) (i := 4) (lv' := [(4, .int r43), (3, .int r40), (0, .ref v0), (1, .int v1), (2, .int v2)]) dX12_passesDay_98 (by decide) rfl ?_
  refine V_aload_n (pc := 100) (i := 0) dX12_passesDay_100 rfl rfl ?_
  refine V_iconst (pc := 101) (v := (0 : Int32)) dX12_passesDay_101 (by decide) ?_
  refine V_iload_n (pc := 102) (i := 3) dX12_passesDay_102 rfl rfl ?_
  obtain ⟨r45, h46, g44, e⟩ := ob2_some e
  refine V_callV (pc := 103) (bc := 0) (bs := 0) (mc := 0) (ms := 0) (st := []) (As := [.int (0 : Int32), .int r40]) (a := v0) (h' := h46) (r := none) dX12_passesDay_103 ml_X12_325 (ci := 11) rfl (of_decide_eq_true g41) rfl rfl (Nat.le_of_ble_eq_true rfl) (d' := 2) (by decide) (c_X12_slides (l := x.2.1) v0 (0 : Int32) r40 h g44) ?_
  refine V_aload_n (pc := 106) (i := 0) dX12_passesDay_106 rfl rfl ?_
  refine V_iconst (pc := 107) (v := (1 : Int32)) dX12_passesDay_107 (by decide) ?_
  refine V_iload (pc := 108) (i := 4) dX12_passesDay_108 rfl ?_
  obtain ⟨r48, h49, g47, e⟩ := ob2_some e
  obtain ⟨g50, e⟩ := gd_some e
  refine V_callV (pc := 110) (bc := 0) (bs := 0) (mc := 0) (ms := 0) (st := []) (As := [.int (1 : Int32), .int r43]) (a := v0) (h' := h49) (r := none) dX12_passesDay_110 ml_X12_325 (ci := 11) rfl (of_decide_eq_true g50) rfl rfl (Nat.le_of_ble_eq_true rfl) (d' := 2) (by decide) (c_X12_slides (l := x.2.1) v0 (1 : Int32) r43 h46 g47) ?_
  refine V_aload_n (pc := 113) (i := 0) dX12_passesDay_113 rfl rfl ?_
  obtain ⟨g51, e⟩ := gd_some e
  refine V_getI (pc := 114) (ci := 11) (k := 18) dX12_passesDay_114 fl_X12_322 rfl (of_decide_eq_true g51) ?_
  refine V_if_ge (pc := 117) (tgt := 132) dX12_passesDay_117 (by decide) (fun c55 => ?_) (fun c55 => ?_)
  · rw [if_pos c55] at e
    exact V_pick [2, 3, 4] rfl (r_X12_passesDay_b132 v0 v1 v2 h49 e kI kE138)
  · rw [if_neg c55] at e
    refine V_pick [2, 3, 4] rfl ?_
    refine V_aload_n (pc := 120) (i := 0) dX12_passesDay_120 rfl rfl ?_
    obtain ⟨r53, g52, e⟩ := ob_some e
    refine V_callV (pc := 121) (bc := 0) (bs := 0) (mc := 0) (ms := 0) (st := []) (As := []) (a := v0) (h' := h49) (r := some (.int r53)) dX12_passesDay_121 ml_X12_293 (ci := 11) rfl (of_decide_eq_true g51) rfl rfl (Nat.le_of_ble_eq_true rfl) (d' := 5) (by decide) (c_X12_isLevel (l := x.2.1) v0 h49 g52) ?_
    refine V_if_ne (pc := 124) (tgt := 132) dX12_passesDay_124 (by decide) (fun c54 => ?_) (fun c54 => ?_)
    · rw [if_neg c54] at e
      exact V_pick [0, 1, 2] rfl (r_X12_passesDay_b132 v0 v1 v2 h49 e kI kE138)
    · rw [if_pos c54] at e
      refine V_pick [0, 1, 2] rfl ?_
      refine V_aload_n (pc := 127) (i := 0) dX12_passesDay_127 rfl rfl ?_
      refine V_iload_n (pc := 128) (i := 2) dX12_passesDay_128 rfl rfl ?_
      refine V_putI (pc := 129) (ci := 11) (k := 18) dX12_passesDay_129 fp_X12_322 rfl (of_decide_eq_true g51) ?_
      exact V_pick [0, 1, 2] rfl (r_X12_passesDay_b132 v0 v1 v2 (setI h49 v0 18 v2) e kI kE138)
set_option maxRecDepth 100000 in
def F_X12_passesDay_l18 (v0 : Nat) (v1 : Int32) (v2 : Int32) (h : Hp) : Option ((Int32 × Int32 × Hp) ⊕ Hp) :=
  (if (1000 : Int32) ≤ v2 then some (.inr h) else ob (iter (fun z : Int32 × Hp => F_X12_passesDay_l25 v0 z.1 v2 z.2) FU (v1, h)) (fun z => un2 z fun w37 h38 => F_X12_passesDay_b87 v0 w37 v2 h38))
set_option maxHeartbeats 4000000 in
set_option maxRecDepth 100000 in
theorem r_X12_passesDay_l18 (v0 : Nat) (v1 : Int32) (v2 : Int32) (h : Hp) {x : Cx} {o : ((Int32 × Int32 × Hp) ⊕ Hp)} (e : F_X12_passesDay_l18 v0 v1 v2 h = some o) (kI : ∀ z, o = .inl z → V M_X12_passesDay x 6 18 [(0, .ref v0), (1, .int z.1), (2, .int z.2.1)] [] z.2.2 0 0) (kE138 : ∀ z : Hp, o = .inr z → V M_X12_passesDay x 6 138 [] [] z 0 0) : V M_X12_passesDay x 6 18 [(0, .ref v0), (1, .int v1), (2, .int v2)] [] h 0 0 := by
  unfold F_X12_passesDay_l18 at e
  refine V_iload_n (pc := 18) (i := 2) dX12_passesDay_18 rfl rfl ?_
  refine V_sipush (pc := 19) (v := (1000 : Int32)) dX12_passesDay_19 (by decide) ?_
  refine V_icmp_ge (pc := 22) (tgt := 138) dX12_passesDay_22 (by decide) (fun c58 => ?_) (fun c58 => ?_)
  · rw [if_pos c58] at e
    cases e
    exact V_pick [] rfl (kE138 h rfl)
  · rw [if_neg c58] at e
    refine V_pick [0, 1, 2] rfl ?_
    obtain ⟨y56, g57, e⟩ := ob_some e
    refine iter_V (P := fun z : Int32 × Hp => V M_X12_passesDay x 6 25 [(0, .ref v0), (1, .int z.1), (2, .int v2)] [] z.2 0 0) (E := fun z : Int32 × Hp => V M_X12_passesDay x 6 87 [(0, .ref v0), (1, .int z.1), (2, .int v2)] [] z.2 0 0) (fun z o e9 k1 k2 => r_X12_passesDay_l25 v0 z.1 v2 z.2 e9 (fun z hz9 => k1 z hz9) (fun z hz9 => k2 _ hz9)) _ _ _ g57 ?_
    clear g57
    obtain ⟨w37, h38⟩ := y56
    replace e : (F_X12_passesDay_b87 v0 w37 v2 h38) = some o := e
    show V M_X12_passesDay x 6 87 [(0, .ref v0), (1, .int w37), (2, .int v2)] [] h38 0 0
    exact V_pick [0, 1, 2] rfl (r_X12_passesDay_b87 v0 w37 v2 h38 e kI kE138)
set_option maxRecDepth 100000 in
def F_X12_passesDay_b0 (v0 : Nat) (h : Hp) : Option (Unit × Hp) :=
  ob2 (F_X12_sits v0 h) fun _ h3 => gd (decide (kd h v0 = 11)) <| gd (decide (kd h3 v0 = 11)) <| ob (iter (fun z : Int32 × Int32 × Hp => F_X12_passesDay_l18 v0 z.1 z.2.1 z.2.2) FU ((0 : Int32), (0 : Int32), setI (setI h3 v0 17 (0 : Int32)) v0 18 (-1 : Int32))) (fun h59 => some ((), h59))
set_option maxHeartbeats 4000000 in
set_option maxRecDepth 100000 in
theorem r_X12_passesDay_b0 (v0 : Nat) (h : Hp) {x : Cx} {r : Unit} {hz : Hp} (e : F_X12_passesDay_b0 v0 h = some (r, hz)) (hF : Fin9 M_X12_passesDay x none none hz) : V M_X12_passesDay x 6 0 [(0, .ref v0)] [] h 0 0 := by
  unfold F_X12_passesDay_b0 at e
  refine V_aload_n (pc := 0) (i := 0) dX12_passesDay_0 rfl rfl ?_
  obtain ⟨r2, h3, g1, e⟩ := ob2_some e
  obtain ⟨g4, e⟩ := gd_some e
  refine V_callV (pc := 1) (bc := 0) (bs := 0) (mc := 0) (ms := 0) (st := []) (As := []) (a := v0) (h' := h3) (r := none) dX12_passesDay_1 ml_X12_290 (ci := 11) rfl (of_decide_eq_true g4) rfl rfl (Nat.le_of_ble_eq_true rfl) (d' := 1) (by decide) (c_X12_sits (l := x.2.1) v0 h g1) ?_
  refine V_aload_n (pc := 4) (i := 0) dX12_passesDay_4 rfl rfl ?_
  refine V_iconst (pc := 5) (v := (0 : Int32)) dX12_passesDay_5 (by decide) ?_
  obtain ⟨g5, e⟩ := gd_some e
  refine V_putI (pc := 6) (ci := 11) (k := 17) dX12_passesDay_6 fp_X12_319 rfl (of_decide_eq_true g5) ?_
  refine V_aload_n (pc := 9) (i := 0) dX12_passesDay_9 rfl rfl ?_
  refine V_iconst (pc := 10) (v := (-1 : Int32)) dX12_passesDay_10 (by decide) ?_
  refine V_putI (pc := 11) (ci := 11) (k := 18) dX12_passesDay_11 fp_X12_322 rfl (kd_sI (of_decide_eq_true g5)) ?_
  refine V_iconst (pc := 14) (v := (0 : Int32)) dX12_passesDay_14 (by decide) ?_
  refine V_istore_n (pc := 15) (i := 1) (lv' := [(1, .int (0 : Int32)), (0, .ref v0)]) dX12_passesDay_15 rfl (by decide) rfl ?_
  refine V_iconst (pc := 16) (v := (0 : Int32)) dX12_passesDay_16 (by decide) ?_
  refine V_istore_n (pc := 17) (i := 2) (lv' := [(2, .int (0 : Int32)), (1, .int (0 : Int32)), (0, .ref v0)]) dX12_passesDay_17 rfl (by decide) rfl ?_
  refine V_pick [2, 1, 0] rfl ?_
  obtain ⟨y60, g61, e⟩ := ob_some e
  refine iter_V (P := fun z : Int32 × Int32 × Hp => V M_X12_passesDay x 6 18 [(0, .ref v0), (1, .int z.1), (2, .int z.2.1)] [] z.2.2 0 0) (E := fun z : Hp => V M_X12_passesDay x 6 138 [] [] z 0 0) (fun z o e9 k1 k2 => r_X12_passesDay_l18 v0 z.1 z.2.1 z.2.2 e9 (fun z hz9 => k1 z hz9) (fun z hz9 => k2 _ hz9)) _ _ _ g61 ?_
  clear g61
  obtain ⟨h59, rfl⟩ : ∃ q, q = y60 := ⟨_, rfl⟩
  replace e : (some ((), h59)) = some (r, hz) := e
  show V M_X12_passesDay x 6 138 [] [] h59 0 0
  cases e
  exact V_vret (pc := 138) dX12_passesDay_138 hF
def F_X12_passesDay (v0 : Nat) (h : Hp) : Option (Unit × Hp) := F_X12_passesDay_b0 v0 h
theorem c_X12_passesDay {l : Launch} (v0 : Nat) (h : Hp) {r : Unit} {hz : Hp} (e : F_X12_passesDay v0 h = some (r, hz)) : Ct l yX12_passesDay M_X12_passesDay none 6 [.ref v0] h 0 0 none hz :=
  Ct_of rfl rfl (fun q => by cases q) (Nat.le_of_ble_eq_true rfl) (fun x _ hF => V_pick [0] rfl (r_X12_passesDay_b0 v0 h e hF))
theorem dX12_day_0 : decode cX12_day 0 = .ok (.aload_n 0, 1) := by decide +kernel
theorem dX12_day_1 : decode cX12_day 1 = .ok (.iconst 0, 1) := by decide +kernel
theorem dX12_day_2 : decode cX12_day 2 = .ok (.putfield 3, 3) := by decide +kernel
theorem dX12_day_5 : decode cX12_day 5 = .ok (.aload_n 0, 1) := by decide +kernel
theorem dX12_day_6 : decode cX12_day 6 = .ok (.iload_n 1, 1) := by decide +kernel
theorem dX12_day_7 : decode cX12_day 7 = .ok (.iconst 0, 1) := by decide +kernel
theorem dX12_day_8 : decode cX12_day 8 = .ok (.iconst 3, 1) := by decide +kernel
theorem dX12_day_9 : decode cX12_day 9 = .ok (.invokestatic 64, 3) := by decide +kernel
theorem dX12_day_12 : decode cX12_day 12 = .ok (.ifCond .ne 7, 3) := by decide +kernel
theorem dX12_day_15 : decode cX12_day 15 = .ok (.iconst 1, 1) := by decide +kernel
theorem dX12_day_16 : decode cX12_day 16 = .ok (.goto 4, 3) := by decide +kernel
theorem dX12_day_19 : decode cX12_day 19 = .ok (.iconst 0, 1) := by decide +kernel
theorem dX12_day_20 : decode cX12_day 20 = .ok (.iconst 1, 1) := by decide +kernel
theorem dX12_day_21 : decode cX12_day 21 = .ok (.invokevirtual 240, 3) := by decide +kernel
theorem dX12_day_24 : decode cX12_day 24 = .ok (.ifCond .eq 5, 3) := by decide +kernel
theorem dX12_day_27 : decode cX12_day 27 = .ok (.iconst 0, 1) := by decide +kernel
theorem dX12_day_28 : decode cX12_day 28 = .ok (.ireturn, 1) := by decide +kernel
theorem dX12_day_29 : decode cX12_day 29 = .ok (.iconst 0, 1) := by decide +kernel
theorem dX12_day_30 : decode cX12_day 30 = .ok (.istore_n 2, 1) := by decide +kernel
theorem dX12_day_31 : decode cX12_day 31 = .ok (.iload_n 2, 1) := by decide +kernel
theorem dX12_day_32 : decode cX12_day 32 = .ok (.bipush 6, 2) := by decide +kernel
theorem dX12_day_34 : decode cX12_day 34 = .ok (.if_icmp .ge 21, 3) := by decide +kernel
theorem dX12_day_37 : decode cX12_day 37 = .ok (.aload_n 0, 1) := by decide +kernel
theorem dX12_day_38 : decode cX12_day 38 = .ok (.getfield 42, 3) := by decide +kernel
theorem dX12_day_41 : decode cX12_day 41 = .ok (.iload_n 2, 1) := by decide +kernel
theorem dX12_day_42 : decode cX12_day 42 = .ok (.aload_n 0, 1) := by decide +kernel
theorem dX12_day_43 : decode cX12_day 43 = .ok (.iload_n 2, 1) := by decide +kernel
theorem dX12_day_44 : decode cX12_day 44 = .ok (.iconst 2, 1) := by decide +kernel
theorem dX12_day_45 : decode cX12_day 45 = .ok (.invokevirtual 265, 3) := by decide +kernel
theorem dX12_day_48 : decode cX12_day 48 = .ok (.iastore, 1) := by decide +kernel
theorem dX12_day_49 : decode cX12_day 49 = .ok (.iinc 2 1, 3) := by decide +kernel
theorem dX12_day_52 : decode cX12_day 52 = .ok (.goto (-21), 3) := by decide +kernel
theorem dX12_day_55 : decode cX12_day 55 = .ok (.aload_n 0, 1) := by decide +kernel
theorem dX12_day_56 : decode cX12_day 56 = .ok (.invokevirtual 328, 3) := by decide +kernel
theorem dX12_day_59 : decode cX12_day 59 = .ok (.iload_n 1, 1) := by decide +kernel
theorem dX12_day_60 : decode cX12_day 60 = .ok (.ifCond .ne 10, 3) := by decide +kernel
theorem dX12_day_63 : decode cX12_day 63 = .ok (.aload_n 0, 1) := by decide +kernel
theorem dX12_day_64 : decode cX12_day 64 = .ok (.getfield 322, 3) := by decide +kernel
theorem dX12_day_67 : decode cX12_day 67 = .ok (.goto 44, 3) := by decide +kernel
theorem dX12_day_70 : decode cX12_day 70 = .ok (.iload_n 1, 1) := by decide +kernel
theorem dX12_day_71 : decode cX12_day 71 = .ok (.iconst 1, 1) := by decide +kernel
theorem dX12_day_72 : decode cX12_day 72 = .ok (.if_icmp .ne 10, 3) := by decide +kernel
theorem dX12_day_75 : decode cX12_day 75 = .ok (.aload_n 0, 1) := by decide +kernel
theorem dX12_day_76 : decode cX12_day 76 = .ok (.getfield 319, 3) := by decide +kernel
theorem dX12_day_79 : decode cX12_day 79 = .ok (.goto 32, 3) := by decide +kernel
theorem dX12_day_82 : decode cX12_day 82 = .ok (.iload_n 1, 1) := by decide +kernel
theorem dX12_day_83 : decode cX12_day 83 = .ok (.iconst 2, 1) := by decide +kernel
theorem dX12_day_84 : decode cX12_day 84 = .ok (.if_icmp .ne 10, 3) := by decide +kernel
theorem dX12_day_87 : decode cX12_day 87 = .ok (.aload_n 0, 1) := by decide +kernel
theorem dX12_day_88 : decode cX12_day 88 = .ok (.invokevirtual 296, 3) := by decide +kernel
theorem dX12_day_91 : decode cX12_day 91 = .ok (.goto 20, 3) := by decide +kernel
theorem dX12_day_94 : decode cX12_day 94 = .ok (.aload_n 0, 1) := by decide +kernel
theorem dX12_day_95 : decode cX12_day 95 = .ok (.invokevirtual 71, 3) := by decide +kernel
theorem dX12_day_98 : decode cX12_day 98 = .ok (.ifCond .le 12, 3) := by decide +kernel
theorem dX12_day_101 : decode cX12_day 101 = .ok (.aload_n 0, 1) := by decide +kernel
theorem dX12_day_102 : decode cX12_day 102 = .ok (.iconst 0, 1) := by decide +kernel
theorem dX12_day_103 : decode cX12_day 103 = .ok (.iconst 2, 1) := by decide +kernel
theorem dX12_day_104 : decode cX12_day 104 = .ok (.invokevirtual 265, 3) := by decide +kernel
theorem dX12_day_107 : decode cX12_day 107 = .ok (.goto 4, 3) := by decide +kernel
theorem dX12_day_110 : decode cX12_day 110 = .ok (.iconst (-1), 1) := by decide +kernel
theorem dX12_day_111 : decode cX12_day 111 = .ok (.istore_n 2, 1) := by decide +kernel
theorem dX12_day_112 : decode cX12_day 112 = .ok (.iconst 0, 1) := by decide +kernel
theorem dX12_day_113 : decode cX12_day 113 = .ok (.istore_n 3, 1) := by decide +kernel
theorem dX12_day_114 : decode cX12_day 114 = .ok (.iload_n 3, 1) := by decide +kernel
theorem dX12_day_115 : decode cX12_day 115 = .ok (.bipush 6, 2) := by decide +kernel
theorem dX12_day_117 : decode cX12_day 117 = .ok (.if_icmp .ge 28, 3) := by decide +kernel
theorem dX12_day_120 : decode cX12_day 120 = .ok (.aload_n 0, 1) := by decide +kernel
theorem dX12_day_121 : decode cX12_day 121 = .ok (.getfield 13, 3) := by decide +kernel
theorem dX12_day_124 : decode cX12_day 124 = .ok (.bipush 53, 2) := by decide +kernel
theorem dX12_day_126 : decode cX12_day 126 = .ok (.iconst 3, 1) := by decide +kernel
theorem dX12_day_127 : decode cX12_day 127 = .ok (.iload_n 3, 1) := by decide +kernel
theorem dX12_day_128 : decode cX12_day 128 = .ok (.imul, 1) := by decide +kernel
theorem dX12_day_129 : decode cX12_day 129 = .ok (.iadd, 1) := by decide +kernel
theorem dX12_day_130 : decode cX12_day 130 = .ok (.iconst 2, 1) := by decide +kernel
theorem dX12_day_131 : decode cX12_day 131 = .ok (.iadd, 1) := by decide +kernel
theorem dX12_day_132 : decode cX12_day 132 = .ok (.aload_n 0, 1) := by decide +kernel
theorem dX12_day_133 : decode cX12_day 133 = .ok (.getfield 42, 3) := by decide +kernel
theorem dX12_day_136 : decode cX12_day 136 = .ok (.iload_n 3, 1) := by decide +kernel
theorem dX12_day_137 : decode cX12_day 137 = .ok (.iaload, 1) := by decide +kernel
theorem dX12_day_138 : decode cX12_day 138 = .ok (.iastore, 1) := by decide +kernel
theorem dX12_day_139 : decode cX12_day 139 = .ok (.iinc 3 1, 3) := by decide +kernel
theorem dX12_day_142 : decode cX12_day 142 = .ok (.goto (-28), 3) := by decide +kernel
theorem dX12_day_145 : decode cX12_day 145 = .ok (.iload_n 2, 1) := by decide +kernel
theorem dX12_day_146 : decode cX12_day 146 = .ok (.ireturn, 1) := by decide +kernel
set_option maxRecDepth 100000 in
def F_X12_day_l31 (v0 : Nat) (v1 : Int32) (v2 : Int32) (h : Hp) : Option ((Int32 × Hp) ⊕ Hp) :=
  (if (6 : Int32) ≤ v2 then some (.inr h) else gd (decide (kd h v0 = 11)) <| ob (zR h v0 19) fun q9 => ob (F_X12_ofTrunk v0 v2 (2 : Int32) h) fun r12 => gd (decide (kd h q9 = 13)) <| gd (ix v2 (zl h q9)) <| some (.inl (v2 + (1 : Int32), setI h q9 (v2).toNatClampNeg r12)))
set_option maxHeartbeats 4000000 in
set_option maxRecDepth 100000 in
theorem r_X12_day_l31 (v0 : Nat) (v1 : Int32) (v2 : Int32) (h : Hp) {x : Cx} {o : ((Int32 × Hp) ⊕ Hp)} (e : F_X12_day_l31 v0 v1 v2 h = some o) (kI : ∀ z, o = .inl z → V M_X12_day x 7 31 [(0, .ref v0), (1, .int v1), (2, .int z.1)] [] z.2 0 0) (kE55 : ∀ z : Hp, o = .inr z → V M_X12_day x 7 55 [(0, .ref v0), (1, .int v1)] [] z 0 0) : V M_X12_day x 7 31 [(0, .ref v0), (1, .int v1), (2, .int v2)] [] h 0 0 := by
  unfold F_X12_day_l31 at e
  refine V_iload_n (pc := 31) (i := 2) dX12_day_31 rfl rfl ?_
  refine V_bipush (pc := 32) (v := (6 : Int32)) dX12_day_32 (by decide) ?_
  refine V_icmp_ge (pc := 34) (tgt := 55) dX12_day_34 (by decide) (fun c15 => ?_) (fun c15 => ?_)
  · rw [if_pos c15] at e
    cases e
    exact V_pick [0, 1] rfl (kE55 h rfl)
  · rw [if_neg c15] at e
    refine V_pick [0, 1, 2] rfl ?_
    refine V_aload_n (pc := 37) (i := 0) dX12_day_37 rfl rfl ?_
    obtain ⟨g8, e⟩ := gd_some e
    obtain ⟨q9, g10, e⟩ := ob_some e
    refine V_getR (pc := 38) (ci := 11) (k := 19) (b := q9) dX12_day_38 fl_X12_42 rfl (of_decide_eq_true g8) g10 ?_
    refine V_iload_n (pc := 41) (i := 2) dX12_day_41 rfl rfl ?_
    refine V_aload_n (pc := 42) (i := 0) dX12_day_42 rfl rfl ?_
    refine V_iload_n (pc := 43) (i := 2) dX12_day_43 rfl rfl ?_
    refine V_iconst (pc := 44) (v := (2 : Int32)) dX12_day_44 (by decide) ?_
    obtain ⟨r12, g11, e⟩ := ob_some e
    refine V_callV (pc := 45) (bc := 0) (bs := 0) (mc := 0) (ms := 0) (st := [.int v2, .ref q9]) (As := [.int v2, .int (2 : Int32)]) (a := v0) (h' := h) (r := some (.int r12)) dX12_day_45 ml_X12_265 (ci := 11) rfl (of_decide_eq_true g8) rfl rfl (Nat.le_of_ble_eq_true rfl) (d' := 0) (by decide) (c_X12_ofTrunk (l := x.2.1) v0 v2 (2 : Int32) h g11) ?_
    obtain ⟨g13, e⟩ := gd_some e
    obtain ⟨g14, e⟩ := gd_some e
    refine V_iast (pc := 48) dX12_day_48 (of_decide_eq_true g13) (ix_in g14) ?_
    refine V_iinc (pc := 49) (i := 2) (u := v2 + (1 : Int32)) (lv' := [(2, .int (v2 + (1 : Int32))), (0, .ref v0), (1, .int v1)]) dX12_day_49 rfl rfl (by decide) rfl ?_
    refine V_goto (pc := 52) (tgt := 31) dX12_day_52 (by decide) ?_
    cases e
    exact V_pick [1, 2, 0] rfl (kI (v2 + (1 : Int32), setI h q9 (v2).toNatClampNeg r12) rfl)
set_option maxRecDepth 100000 in
def F_X12_day_l114 (v0 : Nat) (v2 : Int32) (v3 : Int32) (h : Hp) : Option ((Int32 × Hp) ⊕ Hp) :=
  (if (6 : Int32) ≤ v3 then some (.inr h) else gd (decide (kd h v0 = 11)) <| ob (zR h v0 1) fun q25 => ob (zR h v0 19) fun q27 => gd (decide (kd h q27 = 13)) <| gd (ix v3 (zl h q27)) <| gd (decide (kd h q25 = 13)) <| gd (ix (((53 : Int32) + ((3 : Int32) * v3)) + (2 : Int32)) (zl h q25)) <| some (.inl (v3 + (1 : Int32), setI h q25 (((53 : Int32) + ((3 : Int32) * v3)) + (2 : Int32)).toNatClampNeg (zI h q27 (v3).toNatClampNeg))))
set_option maxHeartbeats 4000000 in
set_option maxRecDepth 100000 in
theorem r_X12_day_l114 (v0 : Nat) (v2 : Int32) (v3 : Int32) (h : Hp) {x : Cx} {o : ((Int32 × Hp) ⊕ Hp)} (e : F_X12_day_l114 v0 v2 v3 h = some o) (kI : ∀ z, o = .inl z → V M_X12_day x 7 114 [(0, .ref v0), (2, .int v2), (3, .int z.1)] [] z.2 0 0) (kE145 : ∀ z : Hp, o = .inr z → V M_X12_day x 7 145 [(2, .int v2)] [] z 0 0) : V M_X12_day x 7 114 [(0, .ref v0), (2, .int v2), (3, .int v3)] [] h 0 0 := by
  unfold F_X12_day_l114 at e
  refine V_iload_n (pc := 114) (i := 3) dX12_day_114 rfl rfl ?_
  refine V_bipush (pc := 115) (v := (6 : Int32)) dX12_day_115 (by decide) ?_
  refine V_icmp_ge (pc := 117) (tgt := 145) dX12_day_117 (by decide) (fun c33 => ?_) (fun c33 => ?_)
  · rw [if_pos c33] at e
    cases e
    exact V_pick [1] rfl (kE145 h rfl)
  · rw [if_neg c33] at e
    refine V_pick [0, 1, 2] rfl ?_
    refine V_aload_n (pc := 120) (i := 0) dX12_day_120 rfl rfl ?_
    obtain ⟨g24, e⟩ := gd_some e
    obtain ⟨q25, g26, e⟩ := ob_some e
    refine V_getR (pc := 121) (ci := 11) (k := 1) (b := q25) dX12_day_121 fl_X12_13 rfl (of_decide_eq_true g24) g26 ?_
    refine V_bipush (pc := 124) (v := (53 : Int32)) dX12_day_124 (by decide) ?_
    refine V_iconst (pc := 126) (v := (3 : Int32)) dX12_day_126 (by decide) ?_
    refine V_iload_n (pc := 127) (i := 3) dX12_day_127 rfl rfl ?_
    refine V_imul (pc := 128) dX12_day_128 ?_
    refine V_iadd (pc := 129) dX12_day_129 ?_
    refine V_iconst (pc := 130) (v := (2 : Int32)) dX12_day_130 (by decide) ?_
    refine V_iadd (pc := 131) dX12_day_131 ?_
    refine V_aload_n (pc := 132) (i := 0) dX12_day_132 rfl rfl ?_
    obtain ⟨q27, g28, e⟩ := ob_some e
    refine V_getR (pc := 133) (ci := 11) (k := 19) (b := q27) dX12_day_133 fl_X12_42 rfl (of_decide_eq_true g24) g28 ?_
    refine V_iload_n (pc := 136) (i := 3) dX12_day_136 rfl rfl ?_
    obtain ⟨g29, e⟩ := gd_some e
    obtain ⟨g30, e⟩ := gd_some e
    refine V_iald (pc := 137) dX12_day_137 (of_decide_eq_true g29) (ix_in g30) ?_
    obtain ⟨g31, e⟩ := gd_some e
    obtain ⟨g32, e⟩ := gd_some e
    refine V_iast (pc := 138) dX12_day_138 (of_decide_eq_true g31) (ix_in g32) ?_
    refine V_iinc (pc := 139) (i := 3) (u := v3 + (1 : Int32)) (lv' := [(3, .int (v3 + (1 : Int32))), (0, .ref v0), (2, .int v2)]) dX12_day_139 rfl rfl (by decide) rfl ?_
    refine V_goto (pc := 142) (tgt := 114) dX12_day_142 (by decide) ?_
    cases e
    exact V_pick [1, 2, 0] rfl (kI (v3 + (1 : Int32), setI h q25 (((53 : Int32) + ((3 : Int32) * v3)) + (2 : Int32)).toNatClampNeg (zI h q27 (v3).toNatClampNeg)) rfl)
set_option maxRecDepth 100000 in
def F_X12_day_b111 (v0 : Nat) (t0 : Int32) (h : Hp) : Option (Int32 × Hp) :=
  ob (iter (fun z : Int32 × Hp => F_X12_day_l114 v0 t0 z.1 z.2) FU ((0 : Int32), h)) (fun h34 => some (t0, h34))
set_option maxHeartbeats 4000000 in
set_option maxRecDepth 100000 in
theorem r_X12_day_b111 (v0 : Nat) (t0 : Int32) (h : Hp) {x : Cx} {r : Int32} {hz : Hp} (e : F_X12_day_b111 v0 t0 h = some (r, hz)) (hF : Fin9 M_X12_day x (some .int) (some (.int r)) hz) : V M_X12_day x 7 111 [(0, .ref v0)] [.int t0] h 0 0 := by
  unfold F_X12_day_b111 at e
  refine V_istore_n (pc := 111) (i := 2) (lv' := [(2, .int t0), (0, .ref v0)]) dX12_day_111 rfl (by decide) rfl ?_
  refine V_iconst (pc := 112) (v := (0 : Int32)) dX12_day_112 (by decide) ?_
  refine V_istore_n (pc := 113) (i := 3) (lv' := [(3, .int (0 : Int32)), (2, .int t0), (0, .ref v0)]) dX12_day_113 rfl (by decide) rfl ?_
  refine V_pick [2, 1, 0] rfl ?_
  obtain ⟨y35, g36, e⟩ := ob_some e
  refine iter_V (P := fun z : Int32 × Hp => V M_X12_day x 7 114 [(0, .ref v0), (2, .int t0), (3, .int z.1)] [] z.2 0 0) (E := fun z : Hp => V M_X12_day x 7 145 [(2, .int t0)] [] z 0 0) (fun z o e9 k1 k2 => r_X12_day_l114 v0 t0 z.1 z.2 e9 (fun z hz9 => k1 z hz9) (fun z hz9 => k2 _ hz9)) _ _ _ g36 ?_
  clear g36
  obtain ⟨h34, rfl⟩ : ∃ q, q = y35 := ⟨_, rfl⟩
  replace e : (some (t0, h34)) = some (r, hz) := e
  show V M_X12_day x 7 145 [(2, .int t0)] [] h34 0 0
  refine V_iload_n (pc := 145) (i := 2) dX12_day_145 rfl rfl ?_
  cases e
  exact V_iret (pc := 146) dX12_day_146 hF
set_option maxRecDepth 100000 in
def F_X12_day_b20 (v0 : Nat) (v1 : Int32) (t0 : Nat) (t1 : Int32) (h : Hp) : Option (Int32 × Hp) :=
  ob2 (F_X12_throwsIf t0 t1 (1 : Int32) h) fun r5 h6 => gd (decide (kd h t0 = 11)) <| (if r5 = 0 then ob (iter (fun z : Int32 × Hp => F_X12_day_l31 v0 v1 z.1 z.2) FU ((0 : Int32), h6)) (fun h16 => ob2 (F_X12_passesDay v0 h16) fun _ h19 => gd (decide (kd h16 v0 = 11)) <| (if v1 = 0 then gd (decide (kd h19 v0 = 11)) <| F_X12_day_b111 v0 (zI h19 v0 18) h19 else (if v1 = (1 : Int32) then gd (decide (kd h19 v0 = 11)) <| F_X12_day_b111 v0 (zI h19 v0 17) h19 else (if v1 = (2 : Int32) then ob (F_X12_told v0 h19) fun r41 => gd (decide (kd h19 v0 = 11)) <| F_X12_day_b111 v0 r41 h19 else ob (F_X12_trunks v0 h19) fun r22 => gd (decide (kd h19 v0 = 11)) <| (if r22 ≤ 0 then F_X12_day_b111 v0 (-1 : Int32) h19 else ob (F_X12_ofTrunk v0 (0 : Int32) (2 : Int32) h19) fun r38 => F_X12_day_b111 v0 r38 h19))))) else some ((0 : Int32), h6))
set_option maxHeartbeats 4000000 in
set_option maxRecDepth 100000 in
theorem r_X12_day_b20 (v0 : Nat) (v1 : Int32) (t0 : Nat) (t1 : Int32) (h : Hp) {x : Cx} {r : Int32} {hz : Hp} (e : F_X12_day_b20 v0 v1 t0 t1 h = some (r, hz)) (hF : Fin9 M_X12_day x (some .int) (some (.int r)) hz) : V M_X12_day x 7 20 [(0, .ref v0), (1, .int v1)] [.int t1, .ref t0] h 0 0 := by
  unfold F_X12_day_b20 at e
  refine V_iconst (pc := 20) (v := (1 : Int32)) dX12_day_20 (by decide) ?_
  obtain ⟨r5, h6, g4, e⟩ := ob2_some e
  obtain ⟨g7, e⟩ := gd_some e
  refine V_callV (pc := 21) (bc := 0) (bs := 0) (mc := 0) (ms := 0) (st := []) (As := [.int t1, .int (1 : Int32)]) (a := t0) (h' := h6) (r := some (.int r5)) dX12_day_21 ml_X12_240 (ci := 11) rfl (of_decide_eq_true g7) rfl rfl (Nat.le_of_ble_eq_true rfl) (d' := 0) (by decide) (c_X12_throwsIf (l := x.2.1) t0 t1 (1 : Int32) h g4) ?_
  refine V_if_eq (pc := 24) (tgt := 29) dX12_day_24 (by decide) (fun c50 => ?_) (fun c50 => ?_)
  · rw [if_pos c50] at e
    refine V_pick [0, 1] rfl ?_
    refine V_iconst (pc := 29) (v := (0 : Int32)) dX12_day_29 (by decide) ?_
    refine V_istore_n (pc := 30) (i := 2) (lv' := [(2, .int (0 : Int32)), (0, .ref v0), (1, .int v1)]) dX12_day_30 rfl (by decide) rfl ?_
    refine V_pick [1, 2, 0] rfl ?_
    obtain ⟨y48, g49, e⟩ := ob_some e
    refine iter_V (P := fun z : Int32 × Hp => V M_X12_day x 7 31 [(0, .ref v0), (1, .int v1), (2, .int z.1)] [] z.2 0 0) (E := fun z : Hp => V M_X12_day x 7 55 [(0, .ref v0), (1, .int v1)] [] z 0 0) (fun z o e9 k1 k2 => r_X12_day_l31 v0 v1 z.1 z.2 e9 (fun z hz9 => k1 z hz9) (fun z hz9 => k2 _ hz9)) _ _ _ g49 ?_
    clear g49
    obtain ⟨h16, rfl⟩ : ∃ q, q = y48 := ⟨_, rfl⟩
    replace e : (ob2 (F_X12_passesDay v0 h16) fun _ h19 => gd (decide (kd h16 v0 = 11)) <| (if v1 = 0 then gd (decide (kd h19 v0 = 11)) <| F_X12_day_b111 v0 (zI h19 v0 18) h19 else (if v1 = (1 : Int32) then gd (decide (kd h19 v0 = 11)) <| F_X12_day_b111 v0 (zI h19 v0 17) h19 else (if v1 = (2 : Int32) then ob (F_X12_told v0 h19) fun r41 => gd (decide (kd h19 v0 = 11)) <| F_X12_day_b111 v0 r41 h19 else ob (F_X12_trunks v0 h19) fun r22 => gd (decide (kd h19 v0 = 11)) <| (if r22 ≤ 0 then F_X12_day_b111 v0 (-1 : Int32) h19 else ob (F_X12_ofTrunk v0 (0 : Int32) (2 : Int32) h19) fun r38 => F_X12_day_b111 v0 r38 h19))))) = some (r, hz) := e
    show V M_X12_day x 7 55 [(0, .ref v0), (1, .int v1)] [] h16 0 0
    refine V_aload_n (pc := 55) (i := 0) dX12_day_55 rfl rfl ?_
    obtain ⟨r18, h19, g17, e⟩ := ob2_some e
    obtain ⟨g20, e⟩ := gd_some e
    refine V_callV (pc := 56) (bc := 0) (bs := 0) (mc := 0) (ms := 0) (st := []) (As := []) (a := v0) (h' := h19) (r := none) dX12_day_56 ml_X12_328 (ci := 11) rfl (of_decide_eq_true g20) rfl rfl (Nat.le_of_ble_eq_true rfl) (d' := 6) (by decide) (c_X12_passesDay (l := x.2.1) v0 h16 g17) ?_
    refine V_iload_n (pc := 59) (i := 1) dX12_day_59 rfl rfl ?_
    refine V_if_ne (pc := 60) (tgt := 70) dX12_day_60 (by decide) (fun c47 => ?_) (fun c47 => ?_)
    · rw [if_neg c47] at e
      refine V_pick [0, 1] rfl ?_
      refine V_iload_n (pc := 70) (i := 1) dX12_day_70 rfl rfl ?_
      refine V_iconst (pc := 71) (v := (1 : Int32)) dX12_day_71 (by decide) ?_
      refine V_icmp_ne (pc := 72) (tgt := 82) dX12_day_72 (by decide) (fun c45 => ?_) (fun c45 => ?_)
      · rw [if_neg c45] at e
        refine V_pick [0, 1] rfl ?_
        refine V_iload_n (pc := 82) (i := 1) dX12_day_82 rfl rfl ?_
        refine V_iconst (pc := 83) (v := (2 : Int32)) dX12_day_83 (by decide) ?_
        refine V_icmp_ne (pc := 84) (tgt := 94) dX12_day_84 (by decide) (fun c43 => ?_) (fun c43 => ?_)
        · rw [if_neg c43] at e
          refine V_pick [0] rfl ?_
          refine V_aload_n (pc := 94) (i := 0) dX12_day_94 rfl rfl ?_
          obtain ⟨r22, g21, e⟩ := ob_some e
          obtain ⟨g23, e⟩ := gd_some e
          refine V_callV (pc := 95) (bc := 0) (bs := 0) (mc := 0) (ms := 0) (st := []) (As := []) (a := v0) (h' := h19) (r := some (.int r22)) dX12_day_95 ml_X12_71 (ci := 11) rfl (of_decide_eq_true g23) rfl rfl (Nat.le_of_ble_eq_true rfl) (d' := 0) (by decide) (c_X12_trunks (l := x.2.1) v0 h19 g21) ?_
          refine V_if_le (pc := 98) (tgt := 110) dX12_day_98 (by decide) (fun c39 => ?_) (fun c39 => ?_)
          · rw [if_pos c39] at e
            refine V_pick [0] rfl ?_
            refine V_iconst (pc := 110) (v := (-1 : Int32)) dX12_day_110 (by decide) ?_
            exact V_pick [0] rfl (r_X12_day_b111 v0 (-1 : Int32) h19 e hF)
          · rw [if_neg c39] at e
            refine V_pick [0] rfl ?_
            refine V_aload_n (pc := 101) (i := 0) dX12_day_101 rfl rfl ?_
            refine V_iconst (pc := 102) (v := (0 : Int32)) dX12_day_102 (by decide) ?_
            refine V_iconst (pc := 103) (v := (2 : Int32)) dX12_day_103 (by decide) ?_
            obtain ⟨r38, g37, e⟩ := ob_some e
            refine V_callV (pc := 104) (bc := 0) (bs := 0) (mc := 0) (ms := 0) (st := []) (As := [.int (0 : Int32), .int (2 : Int32)]) (a := v0) (h' := h19) (r := some (.int r38)) dX12_day_104 ml_X12_265 (ci := 11) rfl (of_decide_eq_true g23) rfl rfl (Nat.le_of_ble_eq_true rfl) (d' := 0) (by decide) (c_X12_ofTrunk (l := x.2.1) v0 (0 : Int32) (2 : Int32) h19 g37) ?_
            refine V_goto (pc := 107) (tgt := 111) dX12_day_107 (by decide) ?_
            exact V_pick [0] rfl (r_X12_day_b111 v0 r38 h19 e hF)
        · rw [if_pos c43] at e
          refine V_pick [0] rfl ?_
          refine V_aload_n (pc := 87) (i := 0) dX12_day_87 rfl rfl ?_
          obtain ⟨r41, g40, e⟩ := ob_some e
          obtain ⟨g42, e⟩ := gd_some e
          refine V_callV (pc := 88) (bc := 0) (bs := 0) (mc := 0) (ms := 0) (st := []) (As := []) (a := v0) (h' := h19) (r := some (.int r41)) dX12_day_88 ml_X12_296 (ci := 11) rfl (of_decide_eq_true g42) rfl rfl (Nat.le_of_ble_eq_true rfl) (d' := 1) (by decide) (c_X12_told (l := x.2.1) v0 h19 g40) ?_
          refine V_goto (pc := 91) (tgt := 111) dX12_day_91 (by decide) ?_
          exact V_pick [0] rfl (r_X12_day_b111 v0 r41 h19 e hF)
      · rw [if_pos c45] at e
        refine V_pick [0] rfl ?_
        refine V_aload_n (pc := 75) (i := 0) dX12_day_75 rfl rfl ?_
        obtain ⟨g44, e⟩ := gd_some e
        refine V_getI (pc := 76) (ci := 11) (k := 17) dX12_day_76 fl_X12_319 rfl (of_decide_eq_true g44) ?_
        refine V_goto (pc := 79) (tgt := 111) dX12_day_79 (by decide) ?_
        exact V_pick [0] rfl (r_X12_day_b111 v0 (zI h19 v0 17) h19 e hF)
    · rw [if_pos c47] at e
      refine V_pick [0] rfl ?_
      refine V_aload_n (pc := 63) (i := 0) dX12_day_63 rfl rfl ?_
      obtain ⟨g46, e⟩ := gd_some e
      refine V_getI (pc := 64) (ci := 11) (k := 18) dX12_day_64 fl_X12_322 rfl (of_decide_eq_true g46) ?_
      refine V_goto (pc := 67) (tgt := 111) dX12_day_67 (by decide) ?_
      exact V_pick [0] rfl (r_X12_day_b111 v0 (zI h19 v0 18) h19 e hF)
  · rw [if_neg c50] at e
    refine V_pick [] rfl ?_
    refine V_iconst (pc := 27) (v := (0 : Int32)) dX12_day_27 (by decide) ?_
    cases e
    exact V_iret (pc := 28) dX12_day_28 hF
set_option maxRecDepth 100000 in
def F_X12_day_b0 (v0 : Nat) (v1 : Int32) (h : Hp) : Option (Int32 × Hp) :=
  gd (decide (kd h v0 = 11)) <| ob (F_X12_in v1 (0 : Int32) (3 : Int32) (setI h v0 0 (0 : Int32))) fun r3 => (if r3 = 0 then F_X12_day_b20 v0 v1 v0 (1 : Int32) (setI h v0 0 (0 : Int32)) else F_X12_day_b20 v0 v1 v0 (0 : Int32) (setI h v0 0 (0 : Int32)))
set_option maxHeartbeats 4000000 in
set_option maxRecDepth 100000 in
theorem r_X12_day_b0 (v0 : Nat) (v1 : Int32) (h : Hp) {x : Cx} {r : Int32} {hz : Hp} (e : F_X12_day_b0 v0 v1 h = some (r, hz)) (hF : Fin9 M_X12_day x (some .int) (some (.int r)) hz) : V M_X12_day x 7 0 [(0, .ref v0), (1, .int v1)] [] h 0 0 := by
  unfold F_X12_day_b0 at e
  refine V_aload_n (pc := 0) (i := 0) dX12_day_0 rfl rfl ?_
  refine V_iconst (pc := 1) (v := (0 : Int32)) dX12_day_1 (by decide) ?_
  obtain ⟨g1, e⟩ := gd_some e
  refine V_putI (pc := 2) (ci := 11) (k := 0) dX12_day_2 fp_X12_3 rfl (of_decide_eq_true g1) ?_
  refine V_aload_n (pc := 5) (i := 0) dX12_day_5 rfl rfl ?_
  refine V_iload_n (pc := 6) (i := 1) dX12_day_6 rfl rfl ?_
  refine V_iconst (pc := 7) (v := (0 : Int32)) dX12_day_7 (by decide) ?_
  refine V_iconst (pc := 8) (v := (3 : Int32)) dX12_day_8 (by decide) ?_
  obtain ⟨r3, g2, e⟩ := ob_some e
  refine V_callS (pc := 9) (bc := 0) (bs := 0) (mc := 0) (ms := 0) (st := [.ref v0]) (As := [.int v1, .int (0 : Int32), .int (3 : Int32)]) (h' := (setI h v0 0 (0 : Int32))) (r := some (.int r3)) dX12_day_9 ml_X12_64 rfl rfl (Nat.le_of_ble_eq_true rfl) (d' := 0) (by decide) (c_X12_in (l := x.2.1) v1 (0 : Int32) (3 : Int32) (setI h v0 0 (0 : Int32)) g2) ?_
  refine V_if_ne (pc := 12) (tgt := 19) dX12_day_12 (by decide) (fun c51 => ?_) (fun c51 => ?_)
  · rw [if_neg c51] at e
    refine V_pick [0, 1] rfl ?_
    refine V_iconst (pc := 19) (v := (0 : Int32)) dX12_day_19 (by decide) ?_
    exact V_pick [0, 1] rfl (r_X12_day_b20 v0 v1 v0 (0 : Int32) (setI h v0 0 (0 : Int32)) e hF)
  · rw [if_pos c51] at e
    refine V_pick [0, 1] rfl ?_
    refine V_iconst (pc := 15) (v := (1 : Int32)) dX12_day_15 (by decide) ?_
    refine V_goto (pc := 16) (tgt := 20) dX12_day_16 (by decide) ?_
    exact V_pick [0, 1] rfl (r_X12_day_b20 v0 v1 v0 (1 : Int32) (setI h v0 0 (0 : Int32)) e hF)
def F_X12_day (v0 : Nat) (v1 : Int32) (h : Hp) : Option (Int32 × Hp) := F_X12_day_b0 v0 v1 h
theorem c_X12_day {l : Launch} (v0 : Nat) (v1 : Int32) (h : Hp) {r : Int32} {hz : Hp} (e : F_X12_day v0 v1 h = some (r, hz)) : Ct l yX12_day M_X12_day (some .int) 7 [.ref v0, .int v1] h 0 0 (some (.int r)) hz :=
  Ct_of rfl rfl (fun q => by cases q) (Nat.le_of_ble_eq_true rfl) (fun x _ hF => V_pick [0, 1] rfl (r_X12_day_b0 v0 v1 h e hF))
theorem dX12_live_0 : decode cX12_live 0 = .ok (.aload_n 0, 1) := by decide +kernel
theorem dX12_live_1 : decode cX12_live 1 = .ok (.iconst 0, 1) := by decide +kernel
theorem dX12_live_2 : decode cX12_live 2 = .ok (.putfield 3, 3) := by decide +kernel
theorem dX12_live_5 : decode cX12_live 5 = .ok (.aload_n 0, 1) := by decide +kernel
theorem dX12_live_6 : decode cX12_live 6 = .ok (.invokevirtual 328, 3) := by decide +kernel
theorem dX12_live_9 : decode cX12_live 9 = .ok (.iconst 0, 1) := by decide +kernel
theorem dX12_live_10 : decode cX12_live 10 = .ok (.istore_n 1, 1) := by decide +kernel
theorem dX12_live_11 : decode cX12_live 11 = .ok (.iload_n 1, 1) := by decide +kernel
theorem dX12_live_12 : decode cX12_live 12 = .ok (.aload_n 0, 1) := by decide +kernel
theorem dX12_live_13 : decode cX12_live 13 = .ok (.invokevirtual 68, 3) := by decide +kernel
theorem dX12_live_16 : decode cX12_live 16 = .ok (.if_icmp .ge 28, 3) := by decide +kernel
theorem dX12_live_19 : decode cX12_live 19 = .ok (.aload_n 0, 1) := by decide +kernel
theorem dX12_live_20 : decode cX12_live 20 = .ok (.getfield 13, 3) := by decide +kernel
theorem dX12_live_23 : decode cX12_live 23 = .ok (.bipush 43, 2) := by decide +kernel
theorem dX12_live_25 : decode cX12_live 25 = .ok (.iconst 2, 1) := by decide +kernel
theorem dX12_live_26 : decode cX12_live 26 = .ok (.iload_n 1, 1) := by decide +kernel
theorem dX12_live_27 : decode cX12_live 27 = .ok (.imul, 1) := by decide +kernel
theorem dX12_live_28 : decode cX12_live 28 = .ok (.iadd, 1) := by decide +kernel
theorem dX12_live_29 : decode cX12_live 29 = .ok (.iconst 1, 1) := by decide +kernel
theorem dX12_live_30 : decode cX12_live 30 = .ok (.iadd, 1) := by decide +kernel
theorem dX12_live_31 : decode cX12_live 31 = .ok (.aload_n 0, 1) := by decide +kernel
theorem dX12_live_32 : decode cX12_live 32 = .ok (.getfield 36, 3) := by decide +kernel
theorem dX12_live_35 : decode cX12_live 35 = .ok (.iload_n 1, 1) := by decide +kernel
theorem dX12_live_36 : decode cX12_live 36 = .ok (.iaload, 1) := by decide +kernel
theorem dX12_live_37 : decode cX12_live 37 = .ok (.iastore, 1) := by decide +kernel
theorem dX12_live_38 : decode cX12_live 38 = .ok (.iinc 1 1, 3) := by decide +kernel
theorem dX12_live_41 : decode cX12_live 41 = .ok (.goto (-30), 3) := by decide +kernel
theorem dX12_live_44 : decode cX12_live 44 = .ok (.aload_n 0, 1) := by decide +kernel
theorem dX12_live_45 : decode cX12_live 45 = .ok (.getfield 322, 3) := by decide +kernel
theorem dX12_live_48 : decode cX12_live 48 = .ok (.ireturn, 1) := by decide +kernel
set_option maxRecDepth 100000 in
def F_X12_live_l11 (v0 : Nat) (v1 : Int32) (h : Hp) : Option ((Int32 × Hp) ⊕ Hp) :=
  ob (F_X12_guests v0 h) fun r6 => gd (decide (kd h v0 = 11)) <| (if r6 ≤ v1 then some (.inr h) else ob (zR h v0 1) fun q8 => ob (zR h v0 15) fun q10 => gd (decide (kd h q10 = 13)) <| gd (ix v1 (zl h q10)) <| gd (decide (kd h q8 = 13)) <| gd (ix (((43 : Int32) + ((2 : Int32) * v1)) + (1 : Int32)) (zl h q8)) <| some (.inl (v1 + (1 : Int32), setI h q8 (((43 : Int32) + ((2 : Int32) * v1)) + (1 : Int32)).toNatClampNeg (zI h q10 (v1).toNatClampNeg))))
set_option maxHeartbeats 4000000 in
set_option maxRecDepth 100000 in
theorem r_X12_live_l11 (v0 : Nat) (v1 : Int32) (h : Hp) {x : Cx} {o : ((Int32 × Hp) ⊕ Hp)} (e : F_X12_live_l11 v0 v1 h = some o) (kI : ∀ z, o = .inl z → V M_X12_live x 7 11 [(0, .ref v0), (1, .int z.1)] [] z.2 0 0) (kE44 : ∀ z : Hp, o = .inr z → V M_X12_live x 7 44 [(0, .ref v0)] [] z 0 0) : V M_X12_live x 7 11 [(0, .ref v0), (1, .int v1)] [] h 0 0 := by
  unfold F_X12_live_l11 at e
  refine V_iload_n (pc := 11) (i := 1) dX12_live_11 rfl rfl ?_
  refine V_aload_n (pc := 12) (i := 0) dX12_live_12 rfl rfl ?_
  obtain ⟨r6, g5, e⟩ := ob_some e
  obtain ⟨g7, e⟩ := gd_some e
  refine V_callV (pc := 13) (bc := 0) (bs := 0) (mc := 0) (ms := 0) (st := [.int v1]) (As := []) (a := v0) (h' := h) (r := some (.int r6)) dX12_live_13 ml_X12_68 (ci := 11) rfl (of_decide_eq_true g7) rfl rfl (Nat.le_of_ble_eq_true rfl) (d' := 0) (by decide) (c_X12_guests (l := x.2.1) v0 h g5) ?_
  refine V_icmp_ge (pc := 16) (tgt := 44) dX12_live_16 (by decide) (fun c16 => ?_) (fun c16 => ?_)
  · rw [if_pos c16] at e
    cases e
    exact V_pick [0] rfl (kE44 h rfl)
  · rw [if_neg c16] at e
    refine V_pick [0, 1] rfl ?_
    refine V_aload_n (pc := 19) (i := 0) dX12_live_19 rfl rfl ?_
    obtain ⟨q8, g9, e⟩ := ob_some e
    refine V_getR (pc := 20) (ci := 11) (k := 1) (b := q8) dX12_live_20 fl_X12_13 rfl (of_decide_eq_true g7) g9 ?_
    refine V_bipush (pc := 23) (v := (43 : Int32)) dX12_live_23 (by decide) ?_
    refine V_iconst (pc := 25) (v := (2 : Int32)) dX12_live_25 (by decide) ?_
    refine V_iload_n (pc := 26) (i := 1) dX12_live_26 rfl rfl ?_
    refine V_imul (pc := 27) dX12_live_27 ?_
    refine V_iadd (pc := 28) dX12_live_28 ?_
    refine V_iconst (pc := 29) (v := (1 : Int32)) dX12_live_29 (by decide) ?_
    refine V_iadd (pc := 30) dX12_live_30 ?_
    refine V_aload_n (pc := 31) (i := 0) dX12_live_31 rfl rfl ?_
    obtain ⟨q10, g11, e⟩ := ob_some e
    refine V_getR (pc := 32) (ci := 11) (k := 15) (b := q10) dX12_live_32 fl_X12_36 rfl (of_decide_eq_true g7) g11 ?_
    refine V_iload_n (pc := 35) (i := 1) dX12_live_35 rfl rfl ?_
    obtain ⟨g12, e⟩ := gd_some e
    obtain ⟨g13, e⟩ := gd_some e
    refine V_iald (pc := 36) dX12_live_36 (of_decide_eq_true g12) (ix_in g13) ?_
    obtain ⟨g14, e⟩ := gd_some e
    obtain ⟨g15, e⟩ := gd_some e
    refine V_iast (pc := 37) dX12_live_37 (of_decide_eq_true g14) (ix_in g15) ?_
    refine V_iinc (pc := 38) (i := 1) (u := v1 + (1 : Int32)) (lv' := [(1, .int (v1 + (1 : Int32))), (0, .ref v0)]) dX12_live_38 rfl rfl (by decide) rfl ?_
    refine V_goto (pc := 41) (tgt := 11) dX12_live_41 (by decide) ?_
    cases e
    exact V_pick [1, 0] rfl (kI (v1 + (1 : Int32), setI h q8 (((43 : Int32) + ((2 : Int32) * v1)) + (1 : Int32)).toNatClampNeg (zI h q10 (v1).toNatClampNeg)) rfl)
set_option maxRecDepth 100000 in
def F_X12_live_b0 (v0 : Nat) (h : Hp) : Option (Int32 × Hp) :=
  gd (decide (kd h v0 = 11)) <| ob2 (F_X12_passesDay v0 (setI h v0 0 (0 : Int32))) fun _ h4 => ob (iter (fun z : Int32 × Hp => F_X12_live_l11 v0 z.1 z.2) FU ((0 : Int32), h4)) (fun h17 => gd (decide (kd h17 v0 = 11)) <| some (zI h17 v0 18, h17))
set_option maxHeartbeats 4000000 in
set_option maxRecDepth 100000 in
theorem r_X12_live_b0 (v0 : Nat) (h : Hp) {x : Cx} {r : Int32} {hz : Hp} (e : F_X12_live_b0 v0 h = some (r, hz)) (hF : Fin9 M_X12_live x (some .int) (some (.int r)) hz) : V M_X12_live x 7 0 [(0, .ref v0)] [] h 0 0 := by
  unfold F_X12_live_b0 at e
  refine V_aload_n (pc := 0) (i := 0) dX12_live_0 rfl rfl ?_
  refine V_iconst (pc := 1) (v := (0 : Int32)) dX12_live_1 (by decide) ?_
  obtain ⟨g1, e⟩ := gd_some e
  refine V_putI (pc := 2) (ci := 11) (k := 0) dX12_live_2 fp_X12_3 rfl (of_decide_eq_true g1) ?_
  refine V_aload_n (pc := 5) (i := 0) dX12_live_5 rfl rfl ?_
  obtain ⟨r3, h4, g2, e⟩ := ob2_some e
  refine V_callV (pc := 6) (bc := 0) (bs := 0) (mc := 0) (ms := 0) (st := []) (As := []) (a := v0) (h' := h4) (r := none) dX12_live_6 ml_X12_328 (ci := 11) rfl (kd_sI (of_decide_eq_true g1)) rfl rfl (Nat.le_of_ble_eq_true rfl) (d' := 6) (by decide) (c_X12_passesDay (l := x.2.1) v0 (setI h v0 0 (0 : Int32)) g2) ?_
  refine V_iconst (pc := 9) (v := (0 : Int32)) dX12_live_9 (by decide) ?_
  refine V_istore_n (pc := 10) (i := 1) (lv' := [(1, .int (0 : Int32)), (0, .ref v0)]) dX12_live_10 rfl (by decide) rfl ?_
  refine V_pick [1, 0] rfl ?_
  obtain ⟨y19, g20, e⟩ := ob_some e
  refine iter_V (P := fun z : Int32 × Hp => V M_X12_live x 7 11 [(0, .ref v0), (1, .int z.1)] [] z.2 0 0) (E := fun z : Hp => V M_X12_live x 7 44 [(0, .ref v0)] [] z 0 0) (fun z o e9 k1 k2 => r_X12_live_l11 v0 z.1 z.2 e9 (fun z hz9 => k1 z hz9) (fun z hz9 => k2 _ hz9)) _ _ _ g20 ?_
  clear g20
  obtain ⟨h17, rfl⟩ : ∃ q, q = y19 := ⟨_, rfl⟩
  replace e : (gd (decide (kd h17 v0 = 11)) <| some (zI h17 v0 18, h17)) = some (r, hz) := e
  show V M_X12_live x 7 44 [(0, .ref v0)] [] h17 0 0
  refine V_aload_n (pc := 44) (i := 0) dX12_live_44 rfl rfl ?_
  obtain ⟨g18, e⟩ := gd_some e
  refine V_getI (pc := 45) (ci := 11) (k := 18) dX12_live_45 fl_X12_322 rfl (of_decide_eq_true g18) ?_
  cases e
  exact V_iret (pc := 48) dX12_live_48 hF
def F_X12_live (v0 : Nat) (h : Hp) : Option (Int32 × Hp) := F_X12_live_b0 v0 h
theorem c_X12_live {l : Launch} (v0 : Nat) (h : Hp) {r : Int32} {hz : Hp} (e : F_X12_live v0 h = some (r, hz)) : Ct l yX12_live M_X12_live (some .int) 7 [.ref v0] h 0 0 (some (.int r)) hz :=
  Ct_of rfl rfl (fun q => by cases q) (Nat.le_of_ble_eq_true rfl) (fun x _ hF => V_pick [0] rfl (r_X12_live_b0 v0 h e hF))
theorem dX12_many_0 : decode cX12_many 0 = .ok (.iconst 1, 1) := by decide +kernel
theorem dX12_many_1 : decode cX12_many 1 = .ok (.istore_n 1, 1) := by decide +kernel
theorem dX12_many_2 : decode cX12_many 2 = .ok (.iconst 0, 1) := by decide +kernel
theorem dX12_many_3 : decode cX12_many 3 = .ok (.istore_n 2, 1) := by decide +kernel
theorem dX12_many_4 : decode cX12_many 4 = .ok (.iload_n 2, 1) := by decide +kernel
theorem dX12_many_5 : decode cX12_many 5 = .ok (.aload_n 0, 1) := by decide +kernel
theorem dX12_many_6 : decode cX12_many 6 = .ok (.invokevirtual 68, 3) := by decide +kernel
theorem dX12_many_9 : decode cX12_many 9 = .ok (.if_icmp .ge 14, 3) := by decide +kernel
theorem dX12_many_12 : decode cX12_many 12 = .ok (.iload_n 1, 1) := by decide +kernel
theorem dX12_many_13 : decode cX12_many 13 = .ok (.bipush 8, 2) := by decide +kernel
theorem dX12_many_15 : decode cX12_many 15 = .ok (.imul, 1) := by decide +kernel
theorem dX12_many_16 : decode cX12_many 16 = .ok (.istore_n 1, 1) := by decide +kernel
theorem dX12_many_17 : decode cX12_many 17 = .ok (.iinc 2 1, 3) := by decide +kernel
theorem dX12_many_20 : decode cX12_many 20 = .ok (.goto (-16), 3) := by decide +kernel
theorem dX12_many_23 : decode cX12_many 23 = .ok (.iload_n 1, 1) := by decide +kernel
theorem dX12_many_24 : decode cX12_many 24 = .ok (.ireturn, 1) := by decide +kernel
set_option maxRecDepth 100000 in
def F_X12_many_l4 (v0 : Nat) (v1 : Int32) (v2 : Int32) (h : Hp) : Option ((Int32 × Int32) ⊕ Int32) :=
  ob (F_X12_guests v0 h) fun r2 => gd (decide (kd h v0 = 11)) <| (if r2 ≤ v2 then some (.inr v1) else some (.inl (v1 * (8 : Int32), v2 + (1 : Int32))))
set_option maxHeartbeats 4000000 in
set_option maxRecDepth 100000 in
theorem r_X12_many_l4 (v0 : Nat) (v1 : Int32) (v2 : Int32) (h : Hp) {x : Cx} {o : ((Int32 × Int32) ⊕ Int32)} (e : F_X12_many_l4 v0 v1 v2 h = some o) (kI : ∀ z, o = .inl z → V M_X12_many x 1 4 [(0, .ref v0), (1, .int z.1), (2, .int z.2)] [] h 0 0) (kE23 : ∀ z : Int32, o = .inr z → V M_X12_many x 1 23 [(1, .int z)] [] h 0 0) : V M_X12_many x 1 4 [(0, .ref v0), (1, .int v1), (2, .int v2)] [] h 0 0 := by
  unfold F_X12_many_l4 at e
  refine V_iload_n (pc := 4) (i := 2) dX12_many_4 rfl rfl ?_
  refine V_aload_n (pc := 5) (i := 0) dX12_many_5 rfl rfl ?_
  obtain ⟨r2, g1, e⟩ := ob_some e
  obtain ⟨g3, e⟩ := gd_some e
  refine V_callV (pc := 6) (bc := 0) (bs := 0) (mc := 0) (ms := 0) (st := [.int v2]) (As := []) (a := v0) (h' := h) (r := some (.int r2)) dX12_many_6 ml_X12_68 (ci := 11) rfl (of_decide_eq_true g3) rfl rfl (Nat.le_of_ble_eq_true rfl) (d' := 0) (by decide) (c_X12_guests (l := x.2.1) v0 h g1) ?_
  refine V_icmp_ge (pc := 9) (tgt := 23) dX12_many_9 (by decide) (fun c4 => ?_) (fun c4 => ?_)
  · rw [if_pos c4] at e
    cases e
    exact V_pick [1] rfl (kE23 v1 rfl)
  · rw [if_neg c4] at e
    refine V_pick [0, 1, 2] rfl ?_
    refine V_iload_n (pc := 12) (i := 1) dX12_many_12 rfl rfl ?_
    refine V_bipush (pc := 13) (v := (8 : Int32)) dX12_many_13 (by decide) ?_
    refine V_imul (pc := 15) dX12_many_15 ?_
    refine V_istore_n (pc := 16) (i := 1) (lv' := [(1, .int (v1 * (8 : Int32))), (0, .ref v0), (2, .int v2)]) dX12_many_16 rfl (by decide) rfl ?_
    refine V_iinc (pc := 17) (i := 2) (u := v2 + (1 : Int32)) (lv' := [(2, .int (v2 + (1 : Int32))), (1, .int (v1 * (8 : Int32))), (0, .ref v0)]) dX12_many_17 rfl rfl (by decide) rfl ?_
    refine V_goto (pc := 20) (tgt := 4) dX12_many_20 (by decide) ?_
    cases e
    exact V_pick [2, 1, 0] rfl (kI (v1 * (8 : Int32), v2 + (1 : Int32)) rfl)
set_option maxRecDepth 100000 in
def F_X12_many_b0 (v0 : Nat) (h : Hp) : Option Int32 :=
  ob (iter (fun z : Int32 × Int32 => F_X12_many_l4 v0 z.1 z.2 h) FU ((1 : Int32), (0 : Int32))) (fun w5 => some w5)
set_option maxHeartbeats 4000000 in
set_option maxRecDepth 100000 in
theorem r_X12_many_b0 (v0 : Nat) (h : Hp) {x : Cx} {r : Int32} (e : F_X12_many_b0 v0 h = some r) (hF : Fin9 M_X12_many x (some .int) (some (.int r)) h) : V M_X12_many x 1 0 [(0, .ref v0)] [] h 0 0 := by
  unfold F_X12_many_b0 at e
  refine V_iconst (pc := 0) (v := (1 : Int32)) dX12_many_0 (by decide) ?_
  refine V_istore_n (pc := 1) (i := 1) (lv' := [(1, .int (1 : Int32)), (0, .ref v0)]) dX12_many_1 rfl (by decide) rfl ?_
  refine V_iconst (pc := 2) (v := (0 : Int32)) dX12_many_2 (by decide) ?_
  refine V_istore_n (pc := 3) (i := 2) (lv' := [(2, .int (0 : Int32)), (1, .int (1 : Int32)), (0, .ref v0)]) dX12_many_3 rfl (by decide) rfl ?_
  refine V_pick [2, 1, 0] rfl ?_
  obtain ⟨y6, g7, e⟩ := ob_some e
  refine iter_V (P := fun z : Int32 × Int32 => V M_X12_many x 1 4 [(0, .ref v0), (1, .int z.1), (2, .int z.2)] [] h 0 0) (E := fun z : Int32 => V M_X12_many x 1 23 [(1, .int z)] [] h 0 0) (fun z o e9 k1 k2 => r_X12_many_l4 v0 z.1 z.2 h e9 (fun z hz9 => k1 z hz9) (fun z hz9 => k2 _ hz9)) _ _ _ g7 ?_
  clear g7
  obtain ⟨w5, rfl⟩ : ∃ q, q = y6 := ⟨_, rfl⟩
  replace e : (some w5) = some r := e
  show V M_X12_many x 1 23 [(1, .int w5)] [] h 0 0
  refine V_iload_n (pc := 23) (i := 1) dX12_many_23 rfl rfl ?_
  cases e
  exact V_iret (pc := 24) dX12_many_24 hF
def F_X12_many (v0 : Nat) (h : Hp) : Option Int32 := F_X12_many_b0 v0 h
theorem c_X12_many {l : Launch} (v0 : Nat) (h : Hp) {r : Int32} (e : F_X12_many v0 h = some r) : Ct l yX12_many M_X12_many (some .int) 1 [.ref v0] h 0 0 (some (.int r)) h :=
  Ct_of rfl rfl (fun q => by cases q) (Nat.le_of_ble_eq_true rfl) (fun x _ hF => V_pick [0] rfl (r_X12_many_b0 v0 h e hF))
theorem dX12_areBeds_0 : decode cX12_areBeds 0 = .ok (.iconst 1, 1) := by decide +kernel
theorem dX12_areBeds_1 : decode cX12_areBeds 1 = .ok (.istore_n 1, 1) := by decide +kernel
theorem dX12_areBeds_2 : decode cX12_areBeds 2 = .ok (.iconst 0, 1) := by decide +kernel
theorem dX12_areBeds_3 : decode cX12_areBeds 3 = .ok (.istore_n 2, 1) := by decide +kernel
theorem dX12_areBeds_4 : decode cX12_areBeds 4 = .ok (.iload_n 2, 1) := by decide +kernel
theorem dX12_areBeds_5 : decode cX12_areBeds 5 = .ok (.aload_n 0, 1) := by decide +kernel
theorem dX12_areBeds_6 : decode cX12_areBeds 6 = .ok (.invokevirtual 68, 3) := by decide +kernel
theorem dX12_areBeds_9 : decode cX12_areBeds 9 = .ok (.if_icmp .ge 43, 3) := by decide +kernel
theorem dX12_areBeds_12 : decode cX12_areBeds 12 = .ok (.iload_n 1, 1) := by decide +kernel
theorem dX12_areBeds_13 : decode cX12_areBeds 13 = .ok (.ifCond .eq 31, 3) := by decide +kernel
theorem dX12_areBeds_16 : decode cX12_areBeds 16 = .ok (.aload_n 0, 1) := by decide +kernel
theorem dX12_areBeds_17 : decode cX12_areBeds 17 = .ok (.aload_n 0, 1) := by decide +kernel
theorem dX12_areBeds_18 : decode cX12_areBeds 18 = .ok (.getfield 36, 3) := by decide +kernel
theorem dX12_areBeds_21 : decode cX12_areBeds 21 = .ok (.iload_n 2, 1) := by decide +kernel
theorem dX12_areBeds_22 : decode cX12_areBeds 22 = .ok (.iaload, 1) := by decide +kernel
theorem dX12_areBeds_23 : decode cX12_areBeds 23 = .ok (.invokevirtual 299, 3) := by decide +kernel
theorem dX12_areBeds_26 : decode cX12_areBeds 26 = .ok (.aload_n 0, 1) := by decide +kernel
theorem dX12_areBeds_27 : decode cX12_areBeds 27 = .ok (.aload_n 0, 1) := by decide +kernel
theorem dX12_areBeds_28 : decode cX12_areBeds 28 = .ok (.getfield 36, 3) := by decide +kernel
theorem dX12_areBeds_31 : decode cX12_areBeds 31 = .ok (.iload_n 2, 1) := by decide +kernel
theorem dX12_areBeds_32 : decode cX12_areBeds 32 = .ok (.iaload, 1) := by decide +kernel
theorem dX12_areBeds_33 : decode cX12_areBeds 33 = .ok (.iconst 2, 1) := by decide +kernel
theorem dX12_areBeds_34 : decode cX12_areBeds 34 = .ok (.invokevirtual 131, 3) := by decide +kernel
theorem dX12_areBeds_37 : decode cX12_areBeds 37 = .ok (.if_icmp .gt 7, 3) := by decide +kernel
theorem dX12_areBeds_40 : decode cX12_areBeds 40 = .ok (.iconst 1, 1) := by decide +kernel
theorem dX12_areBeds_41 : decode cX12_areBeds 41 = .ok (.goto 4, 3) := by decide +kernel
theorem dX12_areBeds_44 : decode cX12_areBeds 44 = .ok (.iconst 0, 1) := by decide +kernel
theorem dX12_areBeds_45 : decode cX12_areBeds 45 = .ok (.istore_n 1, 1) := by decide +kernel
theorem dX12_areBeds_46 : decode cX12_areBeds 46 = .ok (.iinc 2 1, 3) := by decide +kernel
theorem dX12_areBeds_49 : decode cX12_areBeds 49 = .ok (.goto (-45), 3) := by decide +kernel
theorem dX12_areBeds_52 : decode cX12_areBeds 52 = .ok (.iload_n 1, 1) := by decide +kernel
theorem dX12_areBeds_53 : decode cX12_areBeds 53 = .ok (.ireturn, 1) := by decide +kernel
set_option maxRecDepth 100000 in
def F_X12_areBeds_b45 (v0 : Nat) (v2 : Int32) (t0 : Int32) (h : Hp) : Option ((Int32 × Int32) ⊕ Int32) :=
  some (.inl (t0, v2 + (1 : Int32)))
set_option maxHeartbeats 4000000 in
set_option maxRecDepth 100000 in
theorem r_X12_areBeds_b45 (v0 : Nat) (v2 : Int32) (t0 : Int32) (h : Hp) {x : Cx} {o : ((Int32 × Int32) ⊕ Int32)} (e : F_X12_areBeds_b45 v0 v2 t0 h = some o) (kI : ∀ z, o = .inl z → V M_X12_areBeds x 2 4 [(0, .ref v0), (1, .int z.1), (2, .int z.2)] [] h 0 0) (kE52 : ∀ z : Int32, o = .inr z → V M_X12_areBeds x 2 52 [(1, .int z)] [] h 0 0) : V M_X12_areBeds x 2 45 [(0, .ref v0), (2, .int v2)] [.int t0] h 0 0 := by
  unfold F_X12_areBeds_b45 at e
  refine V_istore_n (pc := 45) (i := 1) (lv' := [(1, .int t0), (0, .ref v0), (2, .int v2)]) dX12_areBeds_45 rfl (by decide) rfl ?_
  refine V_iinc (pc := 46) (i := 2) (u := v2 + (1 : Int32)) (lv' := [(2, .int (v2 + (1 : Int32))), (1, .int t0), (0, .ref v0)]) dX12_areBeds_46 rfl rfl (by decide) rfl ?_
  refine V_goto (pc := 49) (tgt := 4) dX12_areBeds_49 (by decide) ?_
  cases e
  exact V_pick [2, 1, 0] rfl (kI (t0, v2 + (1 : Int32)) rfl)
set_option maxRecDepth 100000 in
def F_X12_areBeds_b44 (v0 : Nat) (v2 : Int32) (h : Hp) : Option ((Int32 × Int32) ⊕ Int32) :=
  F_X12_areBeds_b45 v0 v2 (0 : Int32) h
set_option maxHeartbeats 4000000 in
set_option maxRecDepth 100000 in
theorem r_X12_areBeds_b44 (v0 : Nat) (v2 : Int32) (h : Hp) {x : Cx} {o : ((Int32 × Int32) ⊕ Int32)} (e : F_X12_areBeds_b44 v0 v2 h = some o) (kI : ∀ z, o = .inl z → V M_X12_areBeds x 2 4 [(0, .ref v0), (1, .int z.1), (2, .int z.2)] [] h 0 0) (kE52 : ∀ z : Int32, o = .inr z → V M_X12_areBeds x 2 52 [(1, .int z)] [] h 0 0) : V M_X12_areBeds x 2 44 [(0, .ref v0), (2, .int v2)] [] h 0 0 := by
  unfold F_X12_areBeds_b44 at e
  refine V_iconst (pc := 44) (v := (0 : Int32)) dX12_areBeds_44 (by decide) ?_
  exact V_pick [0, 1] rfl (r_X12_areBeds_b45 v0 v2 (0 : Int32) h e kI kE52)
set_option maxRecDepth 100000 in
def F_X12_areBeds_l4 (v0 : Nat) (v1 : Int32) (v2 : Int32) (h : Hp) : Option ((Int32 × Int32) ⊕ Int32) :=
  ob (F_X12_guests v0 h) fun r2 => gd (decide (kd h v0 = 11)) <| (if r2 ≤ v2 then some (.inr v1) else (if v1 = 0 then F_X12_areBeds_b44 v0 v2 h else ob (zR h v0 15) fun q4 => gd (decide (kd h q4 = 13)) <| gd (ix v2 (zl h q4)) <| ob (F_X12_headsIn v0 (zI h q4 (v2).toNatClampNeg) h) fun r9 => ob (zR h v0 15) fun q10 => gd (decide (kd h q10 = 13)) <| gd (ix v2 (zl h q10)) <| ob (F_X12_ofRoom v0 (zI h q10 (v2).toNatClampNeg) (2 : Int32) h) fun r15 => (if r15 < r9 then F_X12_areBeds_b44 v0 v2 h else F_X12_areBeds_b45 v0 v2 (1 : Int32) h)))
set_option maxHeartbeats 4000000 in
set_option maxRecDepth 100000 in
theorem r_X12_areBeds_l4 (v0 : Nat) (v1 : Int32) (v2 : Int32) (h : Hp) {x : Cx} {o : ((Int32 × Int32) ⊕ Int32)} (e : F_X12_areBeds_l4 v0 v1 v2 h = some o) (kI : ∀ z, o = .inl z → V M_X12_areBeds x 2 4 [(0, .ref v0), (1, .int z.1), (2, .int z.2)] [] h 0 0) (kE52 : ∀ z : Int32, o = .inr z → V M_X12_areBeds x 2 52 [(1, .int z)] [] h 0 0) : V M_X12_areBeds x 2 4 [(0, .ref v0), (1, .int v1), (2, .int v2)] [] h 0 0 := by
  unfold F_X12_areBeds_l4 at e
  refine V_iload_n (pc := 4) (i := 2) dX12_areBeds_4 rfl rfl ?_
  refine V_aload_n (pc := 5) (i := 0) dX12_areBeds_5 rfl rfl ?_
  obtain ⟨r2, g1, e⟩ := ob_some e
  obtain ⟨g3, e⟩ := gd_some e
  refine V_callV (pc := 6) (bc := 0) (bs := 0) (mc := 0) (ms := 0) (st := [.int v2]) (As := []) (a := v0) (h' := h) (r := some (.int r2)) dX12_areBeds_6 ml_X12_68 (ci := 11) rfl (of_decide_eq_true g3) rfl rfl (Nat.le_of_ble_eq_true rfl) (d' := 0) (by decide) (c_X12_guests (l := x.2.1) v0 h g1) ?_
  refine V_icmp_ge (pc := 9) (tgt := 52) dX12_areBeds_9 (by decide) (fun c18 => ?_) (fun c18 => ?_)
  · rw [if_pos c18] at e
    cases e
    exact V_pick [1] rfl (kE52 v1 rfl)
  · rw [if_neg c18] at e
    refine V_pick [0, 1, 2] rfl ?_
    refine V_iload_n (pc := 12) (i := 1) dX12_areBeds_12 rfl rfl ?_
    refine V_if_eq (pc := 13) (tgt := 44) dX12_areBeds_13 (by decide) (fun c17 => ?_) (fun c17 => ?_)
    · rw [if_pos c17] at e
      exact V_pick [0, 2] rfl (r_X12_areBeds_b44 v0 v2 h e kI kE52)
    · rw [if_neg c17] at e
      refine V_pick [0, 2] rfl ?_
      refine V_aload_n (pc := 16) (i := 0) dX12_areBeds_16 rfl rfl ?_
      refine V_aload_n (pc := 17) (i := 0) dX12_areBeds_17 rfl rfl ?_
      obtain ⟨q4, g5, e⟩ := ob_some e
      refine V_getR (pc := 18) (ci := 11) (k := 15) (b := q4) dX12_areBeds_18 fl_X12_36 rfl (of_decide_eq_true g3) g5 ?_
      refine V_iload_n (pc := 21) (i := 2) dX12_areBeds_21 rfl rfl ?_
      obtain ⟨g6, e⟩ := gd_some e
      obtain ⟨g7, e⟩ := gd_some e
      refine V_iald (pc := 22) dX12_areBeds_22 (of_decide_eq_true g6) (ix_in g7) ?_
      obtain ⟨r9, g8, e⟩ := ob_some e
      refine V_callV (pc := 23) (bc := 0) (bs := 0) (mc := 0) (ms := 0) (st := []) (As := [.int (zI h q4 (v2).toNatClampNeg)]) (a := v0) (h' := h) (r := some (.int r9)) dX12_areBeds_23 ml_X12_299 (ci := 11) rfl (of_decide_eq_true g3) rfl rfl (Nat.le_of_ble_eq_true rfl) (d' := 1) (by decide) (c_X12_headsIn (l := x.2.1) v0 (zI h q4 (v2).toNatClampNeg) h g8) ?_
      refine V_aload_n (pc := 26) (i := 0) dX12_areBeds_26 rfl rfl ?_
      refine V_aload_n (pc := 27) (i := 0) dX12_areBeds_27 rfl rfl ?_
      obtain ⟨q10, g11, e⟩ := ob_some e
      refine V_getR (pc := 28) (ci := 11) (k := 15) (b := q10) dX12_areBeds_28 fl_X12_36 rfl (of_decide_eq_true g3) g11 ?_
      refine V_iload_n (pc := 31) (i := 2) dX12_areBeds_31 rfl rfl ?_
      obtain ⟨g12, e⟩ := gd_some e
      obtain ⟨g13, e⟩ := gd_some e
      refine V_iald (pc := 32) dX12_areBeds_32 (of_decide_eq_true g12) (ix_in g13) ?_
      refine V_iconst (pc := 33) (v := (2 : Int32)) dX12_areBeds_33 (by decide) ?_
      obtain ⟨r15, g14, e⟩ := ob_some e
      refine V_callV (pc := 34) (bc := 0) (bs := 0) (mc := 0) (ms := 0) (st := [.int r9]) (As := [.int (zI h q10 (v2).toNatClampNeg), .int (2 : Int32)]) (a := v0) (h' := h) (r := some (.int r15)) dX12_areBeds_34 ml_X12_131 (ci := 11) rfl (of_decide_eq_true g3) rfl rfl (Nat.le_of_ble_eq_true rfl) (d' := 0) (by decide) (c_X12_ofRoom (l := x.2.1) v0 (zI h q10 (v2).toNatClampNeg) (2 : Int32) h g14) ?_
      refine V_icmp_gt (pc := 37) (tgt := 44) dX12_areBeds_37 (by decide) (fun c16 => ?_) (fun c16 => ?_)
      · rw [if_pos c16] at e
        exact V_pick [0, 1] rfl (r_X12_areBeds_b44 v0 v2 h e kI kE52)
      · rw [if_neg c16] at e
        refine V_pick [0, 1] rfl ?_
        refine V_iconst (pc := 40) (v := (1 : Int32)) dX12_areBeds_40 (by decide) ?_
        refine V_goto (pc := 41) (tgt := 45) dX12_areBeds_41 (by decide) ?_
        exact V_pick [0, 1] rfl (r_X12_areBeds_b45 v0 v2 (1 : Int32) h e kI kE52)
set_option maxRecDepth 100000 in
def F_X12_areBeds_b0 (v0 : Nat) (h : Hp) : Option Int32 :=
  ob (iter (fun z : Int32 × Int32 => F_X12_areBeds_l4 v0 z.1 z.2 h) FU ((1 : Int32), (0 : Int32))) (fun w19 => gd (decide (w19 = 0 ∨ w19 = 1)) <| some w19)
set_option maxHeartbeats 4000000 in
set_option maxRecDepth 100000 in
theorem r_X12_areBeds_b0 (v0 : Nat) (h : Hp) {x : Cx} {r : Int32} (e : F_X12_areBeds_b0 v0 h = some r) (hF : Fin9 M_X12_areBeds x (some .boolean) (some (.int r)) h) : V M_X12_areBeds x 2 0 [(0, .ref v0)] [] h 0 0 := by
  unfold F_X12_areBeds_b0 at e
  refine V_iconst (pc := 0) (v := (1 : Int32)) dX12_areBeds_0 (by decide) ?_
  refine V_istore_n (pc := 1) (i := 1) (lv' := [(1, .int (1 : Int32)), (0, .ref v0)]) dX12_areBeds_1 rfl (by decide) rfl ?_
  refine V_iconst (pc := 2) (v := (0 : Int32)) dX12_areBeds_2 (by decide) ?_
  refine V_istore_n (pc := 3) (i := 2) (lv' := [(2, .int (0 : Int32)), (1, .int (1 : Int32)), (0, .ref v0)]) dX12_areBeds_3 rfl (by decide) rfl ?_
  refine V_pick [2, 1, 0] rfl ?_
  obtain ⟨y21, g22, e⟩ := ob_some e
  refine iter_V (P := fun z : Int32 × Int32 => V M_X12_areBeds x 2 4 [(0, .ref v0), (1, .int z.1), (2, .int z.2)] [] h 0 0) (E := fun z : Int32 => V M_X12_areBeds x 2 52 [(1, .int z)] [] h 0 0) (fun z o e9 k1 k2 => r_X12_areBeds_l4 v0 z.1 z.2 h e9 (fun z hz9 => k1 z hz9) (fun z hz9 => k2 _ hz9)) _ _ _ g22 ?_
  clear g22
  obtain ⟨w19, rfl⟩ : ∃ q, q = y21 := ⟨_, rfl⟩
  replace e : (gd (decide (w19 = 0 ∨ w19 = 1)) <| some w19) = some r := e
  show V M_X12_areBeds x 2 52 [(1, .int w19)] [] h 0 0
  refine V_iload_n (pc := 52) (i := 1) dX12_areBeds_52 rfl rfl ?_
  obtain ⟨g20, e⟩ := gd_some e
  cases e
  exact V_zret (pc := 53) dX12_areBeds_53 (z01 (of_decide_eq_true g20)) hF
def F_X12_areBeds (v0 : Nat) (h : Hp) : Option Int32 := F_X12_areBeds_b0 v0 h
theorem c_X12_areBeds {l : Launch} (v0 : Nat) (h : Hp) {r : Int32} (e : F_X12_areBeds v0 h = some r) : Ct l yX12_areBeds M_X12_areBeds (some .boolean) 2 [.ref v0] h 0 0 (some (.int r)) h :=
  Ct_of rfl rfl (fun q => by cases q) (Nat.le_of_ble_eq_true rfl) (fun x _ hF => V_pick [0] rfl (r_X12_areBeds_b0 v0 h e hF))
theorem dX12_order_0 : decode cX12_order 0 = .ok (.iconst 0, 1) := by decide +kernel
theorem dX12_order_1 : decode cX12_order 1 = .ok (.istore_n 1, 1) := by decide +kernel
theorem dX12_order_2 : decode cX12_order 2 = .ok (.iconst 0, 1) := by decide +kernel
theorem dX12_order_3 : decode cX12_order 3 = .ok (.istore_n 2, 1) := by decide +kernel
theorem dX12_order_4 : decode cX12_order 4 = .ok (.iload_n 2, 1) := by decide +kernel
theorem dX12_order_5 : decode cX12_order 5 = .ok (.aload_n 0, 1) := by decide +kernel
theorem dX12_order_6 : decode cX12_order 6 = .ok (.invokevirtual 68, 3) := by decide +kernel
theorem dX12_order_9 : decode cX12_order 9 = .ok (.if_icmp .ge 21, 3) := by decide +kernel
theorem dX12_order_12 : decode cX12_order 12 = .ok (.bipush 8, 2) := by decide +kernel
theorem dX12_order_14 : decode cX12_order 14 = .ok (.iload_n 1, 1) := by decide +kernel
theorem dX12_order_15 : decode cX12_order 15 = .ok (.imul, 1) := by decide +kernel
theorem dX12_order_16 : decode cX12_order 16 = .ok (.aload_n 0, 1) := by decide +kernel
theorem dX12_order_17 : decode cX12_order 17 = .ok (.getfield 36, 3) := by decide +kernel
theorem dX12_order_20 : decode cX12_order 20 = .ok (.iload_n 2, 1) := by decide +kernel
theorem dX12_order_21 : decode cX12_order 21 = .ok (.iaload, 1) := by decide +kernel
theorem dX12_order_22 : decode cX12_order 22 = .ok (.iadd, 1) := by decide +kernel
theorem dX12_order_23 : decode cX12_order 23 = .ok (.istore_n 1, 1) := by decide +kernel
theorem dX12_order_24 : decode cX12_order 24 = .ok (.iinc 2 1, 3) := by decide +kernel
theorem dX12_order_27 : decode cX12_order 27 = .ok (.goto (-23), 3) := by decide +kernel
theorem dX12_order_30 : decode cX12_order 30 = .ok (.iload_n 1, 1) := by decide +kernel
theorem dX12_order_31 : decode cX12_order 31 = .ok (.ireturn, 1) := by decide +kernel
set_option maxRecDepth 100000 in
def F_X12_order_l4 (v0 : Nat) (v1 : Int32) (v2 : Int32) (h : Hp) : Option ((Int32 × Int32) ⊕ Int32) :=
  ob (F_X12_guests v0 h) fun r2 => gd (decide (kd h v0 = 11)) <| (if r2 ≤ v2 then some (.inr v1) else ob (zR h v0 15) fun q4 => gd (decide (kd h q4 = 13)) <| gd (ix v2 (zl h q4)) <| some (.inl (((8 : Int32) * v1) + (zI h q4 (v2).toNatClampNeg), v2 + (1 : Int32))))
set_option maxHeartbeats 4000000 in
set_option maxRecDepth 100000 in
theorem r_X12_order_l4 (v0 : Nat) (v1 : Int32) (v2 : Int32) (h : Hp) {x : Cx} {o : ((Int32 × Int32) ⊕ Int32)} (e : F_X12_order_l4 v0 v1 v2 h = some o) (kI : ∀ z, o = .inl z → V M_X12_order x 1 4 [(0, .ref v0), (1, .int z.1), (2, .int z.2)] [] h 0 0) (kE30 : ∀ z : Int32, o = .inr z → V M_X12_order x 1 30 [(1, .int z)] [] h 0 0) : V M_X12_order x 1 4 [(0, .ref v0), (1, .int v1), (2, .int v2)] [] h 0 0 := by
  unfold F_X12_order_l4 at e
  refine V_iload_n (pc := 4) (i := 2) dX12_order_4 rfl rfl ?_
  refine V_aload_n (pc := 5) (i := 0) dX12_order_5 rfl rfl ?_
  obtain ⟨r2, g1, e⟩ := ob_some e
  obtain ⟨g3, e⟩ := gd_some e
  refine V_callV (pc := 6) (bc := 0) (bs := 0) (mc := 0) (ms := 0) (st := [.int v2]) (As := []) (a := v0) (h' := h) (r := some (.int r2)) dX12_order_6 ml_X12_68 (ci := 11) rfl (of_decide_eq_true g3) rfl rfl (Nat.le_of_ble_eq_true rfl) (d' := 0) (by decide) (c_X12_guests (l := x.2.1) v0 h g1) ?_
  refine V_icmp_ge (pc := 9) (tgt := 30) dX12_order_9 (by decide) (fun c8 => ?_) (fun c8 => ?_)
  · rw [if_pos c8] at e
    cases e
    exact V_pick [1] rfl (kE30 v1 rfl)
  · rw [if_neg c8] at e
    refine V_pick [0, 1, 2] rfl ?_
    refine V_bipush (pc := 12) (v := (8 : Int32)) dX12_order_12 (by decide) ?_
    refine V_iload_n (pc := 14) (i := 1) dX12_order_14 rfl rfl ?_
    refine V_imul (pc := 15) dX12_order_15 ?_
    refine V_aload_n (pc := 16) (i := 0) dX12_order_16 rfl rfl ?_
    obtain ⟨q4, g5, e⟩ := ob_some e
    refine V_getR (pc := 17) (ci := 11) (k := 15) (b := q4) dX12_order_17 fl_X12_36 rfl (of_decide_eq_true g3) g5 ?_
    refine V_iload_n (pc := 20) (i := 2) dX12_order_20 rfl rfl ?_
    obtain ⟨g6, e⟩ := gd_some e
    obtain ⟨g7, e⟩ := gd_some e
    refine V_iald (pc := 21) dX12_order_21 (of_decide_eq_true g6) (ix_in g7) ?_
    refine V_iadd (pc := 22) dX12_order_22 ?_
    refine V_istore_n (pc := 23) (i := 1) (lv' := [(1, .int (((8 : Int32) * v1) + (zI h q4 (v2).toNatClampNeg))), (0, .ref v0), (2, .int v2)]) dX12_order_23 rfl (by decide) rfl ?_
    refine V_iinc (pc := 24) (i := 2) (u := v2 + (1 : Int32)) (lv' := [(2, .int (v2 + (1 : Int32))), (1, .int (((8 : Int32) * v1) + (zI h q4 (v2).toNatClampNeg))), (0, .ref v0)]) dX12_order_24 rfl rfl (by decide) rfl ?_
    refine V_goto (pc := 27) (tgt := 4) dX12_order_27 (by decide) ?_
    cases e
    exact V_pick [2, 1, 0] rfl (kI (((8 : Int32) * v1) + (zI h q4 (v2).toNatClampNeg), v2 + (1 : Int32)) rfl)
set_option maxRecDepth 100000 in
def F_X12_order_b0 (v0 : Nat) (h : Hp) : Option Int32 :=
  ob (iter (fun z : Int32 × Int32 => F_X12_order_l4 v0 z.1 z.2 h) FU ((0 : Int32), (0 : Int32))) (fun w9 => some w9)
set_option maxHeartbeats 4000000 in
set_option maxRecDepth 100000 in
theorem r_X12_order_b0 (v0 : Nat) (h : Hp) {x : Cx} {r : Int32} (e : F_X12_order_b0 v0 h = some r) (hF : Fin9 M_X12_order x (some .int) (some (.int r)) h) : V M_X12_order x 1 0 [(0, .ref v0)] [] h 0 0 := by
  unfold F_X12_order_b0 at e
  refine V_iconst (pc := 0) (v := (0 : Int32)) dX12_order_0 (by decide) ?_
  refine V_istore_n (pc := 1) (i := 1) (lv' := [(1, .int (0 : Int32)), (0, .ref v0)]) dX12_order_1 rfl (by decide) rfl ?_
  refine V_iconst (pc := 2) (v := (0 : Int32)) dX12_order_2 (by decide) ?_
  refine V_istore_n (pc := 3) (i := 2) (lv' := [(2, .int (0 : Int32)), (1, .int (0 : Int32)), (0, .ref v0)]) dX12_order_3 rfl (by decide) rfl ?_
  refine V_pick [2, 1, 0] rfl ?_
  obtain ⟨y10, g11, e⟩ := ob_some e
  refine iter_V (P := fun z : Int32 × Int32 => V M_X12_order x 1 4 [(0, .ref v0), (1, .int z.1), (2, .int z.2)] [] h 0 0) (E := fun z : Int32 => V M_X12_order x 1 30 [(1, .int z)] [] h 0 0) (fun z o e9 k1 k2 => r_X12_order_l4 v0 z.1 z.2 h e9 (fun z hz9 => k1 z hz9) (fun z hz9 => k2 _ hz9)) _ _ _ g11 ?_
  clear g11
  obtain ⟨w9, rfl⟩ : ∃ q, q = y10 := ⟨_, rfl⟩
  replace e : (some w9) = some r := e
  show V M_X12_order x 1 30 [(1, .int w9)] [] h 0 0
  refine V_iload_n (pc := 30) (i := 1) dX12_order_30 rfl rfl ?_
  cases e
  exact V_iret (pc := 31) dX12_order_31 hF
def F_X12_order (v0 : Nat) (h : Hp) : Option Int32 := F_X12_order_b0 v0 h
theorem c_X12_order {l : Launch} (v0 : Nat) (h : Hp) {r : Int32} (e : F_X12_order v0 h = some r) : Ct l yX12_order M_X12_order (some .int) 1 [.ref v0] h 0 0 (some (.int r)) h :=
  Ct_of rfl rfl (fun q => by cases q) (Nat.le_of_ble_eq_true rfl) (fun x _ hF => V_pick [0] rfl (r_X12_order_b0 v0 h e hF))
theorem dX12_now_0 : decode cX12_now 0 = .ok (.aload_n 0, 1) := by decide +kernel
theorem dX12_now_1 : decode cX12_now 1 = .ok (.invokevirtual 290, 3) := by decide +kernel
theorem dX12_now_4 : decode cX12_now 4 = .ok (.aload_n 0, 1) := by decide +kernel
theorem dX12_now_5 : decode cX12_now 5 = .ok (.invokevirtual 334, 3) := by decide +kernel
theorem dX12_now_8 : decode cX12_now 8 = .ok (.ireturn, 1) := by decide +kernel
set_option maxRecDepth 100000 in
def F_X12_now_b0 (v0 : Nat) (h : Hp) : Option (Int32 × Hp) :=
  ob2 (F_X12_sits v0 h) fun _ h3 => gd (decide (kd h v0 = 11)) <| ob (F_X12_order v0 h3) fun r6 => gd (decide (kd h3 v0 = 11)) <| some (r6, h3)
set_option maxHeartbeats 4000000 in
set_option maxRecDepth 100000 in
theorem r_X12_now_b0 (v0 : Nat) (h : Hp) {x : Cx} {r : Int32} {hz : Hp} (e : F_X12_now_b0 v0 h = some (r, hz)) (hF : Fin9 M_X12_now x (some .int) (some (.int r)) hz) : V M_X12_now x 2 0 [(0, .ref v0)] [] h 0 0 := by
  unfold F_X12_now_b0 at e
  refine V_aload_n (pc := 0) (i := 0) dX12_now_0 rfl rfl ?_
  obtain ⟨r2, h3, g1, e⟩ := ob2_some e
  obtain ⟨g4, e⟩ := gd_some e
  refine V_callV (pc := 1) (bc := 0) (bs := 0) (mc := 0) (ms := 0) (st := []) (As := []) (a := v0) (h' := h3) (r := none) dX12_now_1 ml_X12_290 (ci := 11) rfl (of_decide_eq_true g4) rfl rfl (Nat.le_of_ble_eq_true rfl) (d' := 1) (by decide) (c_X12_sits (l := x.2.1) v0 h g1) ?_
  refine V_aload_n (pc := 4) (i := 0) dX12_now_4 rfl rfl ?_
  obtain ⟨r6, g5, e⟩ := ob_some e
  obtain ⟨g7, e⟩ := gd_some e
  refine V_callV (pc := 5) (bc := 0) (bs := 0) (mc := 0) (ms := 0) (st := []) (As := []) (a := v0) (h' := h3) (r := some (.int r6)) dX12_now_5 ml_X12_334 (ci := 11) rfl (of_decide_eq_true g7) rfl rfl (Nat.le_of_ble_eq_true rfl) (d' := 1) (by decide) (c_X12_order (l := x.2.1) v0 h3 g5) ?_
  cases e
  exact V_iret (pc := 8) dX12_now_8 hF
def F_X12_now (v0 : Nat) (h : Hp) : Option (Int32 × Hp) := F_X12_now_b0 v0 h
theorem c_X12_now {l : Launch} (v0 : Nat) (h : Hp) {r : Int32} {hz : Hp} (e : F_X12_now v0 h = some (r, hz)) : Ct l yX12_now M_X12_now (some .int) 2 [.ref v0] h 0 0 (some (.int r)) hz :=
  Ct_of rfl rfl (fun q => by cases q) (Nat.le_of_ble_eq_true rfl) (fun x _ hF => V_pick [0] rfl (r_X12_now_b0 v0 h e hF))
theorem dX12_sent_0 : decode cX12_sent 0 = .ok (.iconst 1, 1) := by decide +kernel
theorem dX12_sent_1 : decode cX12_sent 1 = .ok (.istore 4, 2) := by decide +kernel
theorem dX12_sent_3 : decode cX12_sent 3 = .ok (.aload_n 0, 1) := by decide +kernel
theorem dX12_sent_4 : decode cX12_sent 4 = .ok (.invokevirtual 68, 3) := by decide +kernel
theorem dX12_sent_7 : decode cX12_sent 7 = .ok (.iconst 1, 1) := by decide +kernel
theorem dX12_sent_8 : decode cX12_sent 8 = .ok (.isub, 1) := by decide +kernel
theorem dX12_sent_9 : decode cX12_sent 9 = .ok (.istore 5, 2) := by decide +kernel
theorem dX12_sent_11 : decode cX12_sent 11 = .ok (.iload 5, 2) := by decide +kernel
theorem dX12_sent_13 : decode cX12_sent 13 = .ok (.iload_n 2, 1) := by decide +kernel
theorem dX12_sent_14 : decode cX12_sent 14 = .ok (.if_icmp .le 16, 3) := by decide +kernel
theorem dX12_sent_17 : decode cX12_sent 17 = .ok (.iload 4, 2) := by decide +kernel
theorem dX12_sent_19 : decode cX12_sent 19 = .ok (.bipush 8, 2) := by decide +kernel
theorem dX12_sent_21 : decode cX12_sent 21 = .ok (.imul, 1) := by decide +kernel
theorem dX12_sent_22 : decode cX12_sent 22 = .ok (.istore 4, 2) := by decide +kernel
theorem dX12_sent_24 : decode cX12_sent 24 = .ok (.iinc 5 (-1), 3) := by decide +kernel
theorem dX12_sent_27 : decode cX12_sent 27 = .ok (.goto (-16), 3) := by decide +kernel
theorem dX12_sent_30 : decode cX12_sent 30 = .ok (.iload_n 1, 1) := by decide +kernel
theorem dX12_sent_31 : decode cX12_sent 31 = .ok (.iload_n 3, 1) := by decide +kernel
theorem dX12_sent_32 : decode cX12_sent 32 = .ok (.iload_n 1, 1) := by decide +kernel
theorem dX12_sent_33 : decode cX12_sent 33 = .ok (.iload 4, 2) := by decide +kernel
theorem dX12_sent_35 : decode cX12_sent 35 = .ok (.idiv, 1) := by decide +kernel
theorem dX12_sent_36 : decode cX12_sent 36 = .ok (.bipush 8, 2) := by decide +kernel
theorem dX12_sent_38 : decode cX12_sent 38 = .ok (.irem, 1) := by decide +kernel
theorem dX12_sent_39 : decode cX12_sent 39 = .ok (.isub, 1) := by decide +kernel
theorem dX12_sent_40 : decode cX12_sent 40 = .ok (.iload 4, 2) := by decide +kernel
theorem dX12_sent_42 : decode cX12_sent 42 = .ok (.imul, 1) := by decide +kernel
theorem dX12_sent_43 : decode cX12_sent 43 = .ok (.iadd, 1) := by decide +kernel
theorem dX12_sent_44 : decode cX12_sent 44 = .ok (.ireturn, 1) := by decide +kernel
set_option maxRecDepth 100000 in
def F_X12_sent_l11 (v1 : Int32) (v2 : Int32) (v3 : Int32) (v4 : Int32) (v5 : Int32) (h : Hp) : Option ((Int32 × Int32) ⊕ Int32) :=
  (if v5 ≤ v2 then some (.inr v4) else some (.inl (v4 * (8 : Int32), v5 + (-1 : Int32))))
set_option maxHeartbeats 4000000 in
set_option maxRecDepth 100000 in
theorem r_X12_sent_l11 (v1 : Int32) (v2 : Int32) (v3 : Int32) (v4 : Int32) (v5 : Int32) (h : Hp) {x : Cx} {o : ((Int32 × Int32) ⊕ Int32)} (e : F_X12_sent_l11 v1 v2 v3 v4 v5 h = some o) (kI : ∀ z, o = .inl z → V M_X12_sent x 1 11 [(1, .int v1), (2, .int v2), (3, .int v3), (4, .int z.1), (5, .int z.2)] [] h 0 0) (kE30 : ∀ z : Int32, o = .inr z → V M_X12_sent x 1 30 [(1, .int v1), (3, .int v3), (4, .int z)] [] h 0 0) : V M_X12_sent x 1 11 [(1, .int v1), (2, .int v2), (3, .int v3), (4, .int v4), (5, .int v5)] [] h 0 0 := by
  unfold F_X12_sent_l11 at e
  refine V_iload (pc := 11) (i := 5) dX12_sent_11 rfl ?_
  refine V_iload_n (pc := 13) (i := 2) dX12_sent_13 rfl rfl ?_
  refine V_icmp_le (pc := 14) (tgt := 30) dX12_sent_14 (by decide) (fun c4 => ?_) (fun c4 => ?_)
  · rw [if_pos c4] at e
    cases e
    exact V_pick [0, 2, 3] rfl (kE30 v4 rfl)
  · rw [if_neg c4] at e
    refine V_pick [0, 1, 2, 3, 4] rfl ?_
    refine V_iload (pc := 17) (i := 4) dX12_sent_17 rfl ?_
    refine V_bipush (pc := 19) (v := (8 : Int32)) dX12_sent_19 (by decide) ?_
    refine V_imul (pc := 21) dX12_sent_21 ?_
    refine V_istore (pc := 22) (i := 4) (lv' := [(4, .int (v4 * (8 : Int32))), (1, .int v1), (2, .int v2), (3, .int v3), (5, .int v5)]) dX12_sent_22 (by decide) rfl ?_
    refine V_iinc (pc := 24) (i := 5) (u := v5 + (-1 : Int32)) (lv' := [(5, .int (v5 + (-1 : Int32))), (4, .int (v4 * (8 : Int32))), (1, .int v1), (2, .int v2), (3, .int v3)]) dX12_sent_24 rfl rfl (by decide) rfl ?_
    refine V_goto (pc := 27) (tgt := 11) dX12_sent_27 (by decide) ?_
    cases e
    exact V_pick [2, 3, 4, 1, 0] rfl (kI (v4 * (8 : Int32), v5 + (-1 : Int32)) rfl)
set_option maxRecDepth 100000 in
def F_X12_sent_b0 (v0 : Nat) (v1 : Int32) (v2 : Int32) (v3 : Int32) (h : Hp) : Option Int32 :=
  ob (F_X12_guests v0 h) fun r2 => gd (decide (kd h v0 = 11)) <| ob (iter (fun z : Int32 × Int32 => F_X12_sent_l11 v1 v2 v3 z.1 z.2 h) FU ((1 : Int32), r2 - (1 : Int32))) (fun w5 => gd (decide (¬ w5 = 0)) <| some (v1 + ((v3 - ((v1 / w5) - (v1 / w5) / (8 : Int32) * (8 : Int32))) * w5)))
set_option maxHeartbeats 4000000 in
set_option maxRecDepth 100000 in
theorem r_X12_sent_b0 (v0 : Nat) (v1 : Int32) (v2 : Int32) (v3 : Int32) (h : Hp) {x : Cx} {r : Int32} (e : F_X12_sent_b0 v0 v1 v2 v3 h = some r) (hF : Fin9 M_X12_sent x (some .int) (some (.int r)) h) : V M_X12_sent x 1 0 [(0, .ref v0), (1, .int v1), (2, .int v2), (3, .int v3)] [] h 0 0 := by
  unfold F_X12_sent_b0 at e
  refine V_iconst (pc := 0) (v := (1 : Int32)) dX12_sent_0 (by decide) ?_
  refine V_istore (pc := 1) (i := 4) (lv' := [(4, .int (1 : Int32)), (0, .ref v0), (1, .int v1), (2, .int v2), (3, .int v3)]) dX12_sent_1 (by decide) rfl ?_
  refine V_aload_n (pc := 3) (i := 0) dX12_sent_3 rfl rfl ?_
  obtain ⟨r2, g1, e⟩ := ob_some e
  obtain ⟨g3, e⟩ := gd_some e
  refine V_callV (pc := 4) (bc := 0) (bs := 0) (mc := 0) (ms := 0) (st := []) (As := []) (a := v0) (h' := h) (r := some (.int r2)) dX12_sent_4 ml_X12_68 (ci := 11) rfl (of_decide_eq_true g3) rfl rfl (Nat.le_of_ble_eq_true rfl) (d' := 0) (by decide) (c_X12_guests (l := x.2.1) v0 h g1) ?_
  refine V_iconst (pc := 7) (v := (1 : Int32)) dX12_sent_7 (by decide) ?_
  refine V_isub (pc := 8) dX12_sent_8 ?_
  refine V_istore (pc := 9) (i := 5) (lv' := [(5, .int (r2 - (1 : Int32))), (4, .int (1 : Int32)), (0, .ref v0), (1, .int v1), (2, .int v2), (3, .int v3)]) dX12_sent_9 (by decide) rfl ?_
  refine V_pick [3, 4, 5, 1, 0] rfl ?_
  obtain ⟨y7, g8, e⟩ := ob_some e
  refine iter_V (P := fun z : Int32 × Int32 => V M_X12_sent x 1 11 [(1, .int v1), (2, .int v2), (3, .int v3), (4, .int z.1), (5, .int z.2)] [] h 0 0) (E := fun z : Int32 => V M_X12_sent x 1 30 [(1, .int v1), (3, .int v3), (4, .int z)] [] h 0 0) (fun z o e9 k1 k2 => r_X12_sent_l11 v1 v2 v3 z.1 z.2 h e9 (fun z hz9 => k1 z hz9) (fun z hz9 => k2 _ hz9)) _ _ _ g8 ?_
  clear g8
  obtain ⟨w5, rfl⟩ : ∃ q, q = y7 := ⟨_, rfl⟩
  replace e : (gd (decide (¬ w5 = 0)) <| some (v1 + ((v3 - ((v1 / w5) - (v1 / w5) / (8 : Int32) * (8 : Int32))) * w5))) = some r := e
  show V M_X12_sent x 1 30 [(1, .int v1), (3, .int v3), (4, .int w5)] [] h 0 0
  refine V_iload_n (pc := 30) (i := 1) dX12_sent_30 rfl rfl ?_
  refine V_iload_n (pc := 31) (i := 3) dX12_sent_31 rfl rfl ?_
  refine V_iload_n (pc := 32) (i := 1) dX12_sent_32 rfl rfl ?_
  refine V_iload (pc := 33) (i := 4) dX12_sent_33 rfl ?_
  obtain ⟨g6, e⟩ := gd_some e
  refine V_idiv (pc := 35) dX12_sent_35 (of_decide_eq_true g6) ?_
  refine V_bipush (pc := 36) (v := (8 : Int32)) dX12_sent_36 (by decide) ?_
  refine V_irem (pc := 38) dX12_sent_38 (by decide) ?_
  refine V_isub (pc := 39) dX12_sent_39 ?_
  refine V_iload (pc := 40) (i := 4) dX12_sent_40 rfl ?_
  refine V_imul (pc := 42) dX12_sent_42 ?_
  refine V_iadd (pc := 43) dX12_sent_43 ?_
  cases e
  exact V_iret (pc := 44) dX12_sent_44 hF
def F_X12_sent (v0 : Nat) (v1 : Int32) (v2 : Int32) (v3 : Int32) (h : Hp) : Option Int32 := F_X12_sent_b0 v0 v1 v2 v3 h
theorem c_X12_sent {l : Launch} (v0 : Nat) (v1 : Int32) (v2 : Int32) (v3 : Int32) (h : Hp) {r : Int32} (e : F_X12_sent v0 v1 v2 v3 h = some r) : Ct l yX12_sent M_X12_sent (some .int) 1 [.ref v0, .int v1, .int v2, .int v3] h 0 0 (some (.int r)) h :=
  Ct_of rfl rfl (fun q => by cases q) (Nat.le_of_ble_eq_true rfl) (fun x _ hF => V_pick [0, 1, 2, 3] rfl (r_X12_sent_b0 v0 v1 v2 v3 h e hF))

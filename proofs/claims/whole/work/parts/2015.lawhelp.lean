theorem dL_house_0 : decode cL_house 0 = .ok (.aload_n 1, 1) := by decide +kernel
theorem dL_house_1 : decode cL_house 1 = .ok (.iconst 0, 1) := by decide +kernel
theorem dL_house_2 : decode cL_house 2 = .ok (.aload_n 0, 1) := by decide +kernel
theorem dL_house_3 : decode cL_house 3 = .ok (.invokevirtual 7, 3) := by decide +kernel
theorem dL_house_6 : decode cL_house 6 = .ok (.i2l, 1) := by decide +kernel
theorem dL_house_7 : decode cL_house 7 = .ok (.lastore, 1) := by decide +kernel
theorem dL_house_8 : decode cL_house 8 = .ok (.goto 9, 3) := by decide +kernel
theorem dL_house_11 : decode cL_house 11 = .ok (.astore_n 2, 1) := by decide +kernel
theorem dL_house_12 : decode cL_house 12 = .ok (.iconst 1, 1) := by decide +kernel
theorem dL_house_13 : decode cL_house 13 = .ok (.ireturn, 1) := by decide +kernel
theorem dL_house_14 : decode cL_house 14 = .ok (.astore_n 2, 1) := by decide +kernel
theorem dL_house_15 : decode cL_house 15 = .ok (.iconst 2, 1) := by decide +kernel
theorem dL_house_16 : decode cL_house 16 = .ok (.ireturn, 1) := by decide +kernel
theorem dL_house_17 : decode cL_house 17 = .ok (.iconst 0, 1) := by decide +kernel
theorem dL_house_18 : decode cL_house 18 = .ok (.ireturn, 1) := by decide +kernel
def F_L_house (v0 : Nat) (v1 : Nat) (h : Hp) : Option (Int32 × Hp × Nat × Nat) :=
  gd (decide (kd h v0 = 10)) <| ob4 (F_X11_house v0  h) fun z h1 c1 s1 => sm z (fun r1 => gd (decide (kd h1 v1 = 16)) <| gd (ix 0 (zl h1 v1)) <| some ((0 : Int32), setL h1 v1 ((0 : Int32)).toNatClampNeg r1.toInt64, c1, s1)) (fun k => if k = 0 then some ((1 : Int32), h1, c1, s1) else if k = 1 then some ((2 : Int32), h1, c1, s1) else none)
set_option maxHeartbeats 4000000 in
set_option maxRecDepth 100000 in
theorem c_L_house {l : Launch} (hst : l.stackTraces = false) (v0 : Nat) (v1 : Nat) (h : Hp) {r : Int32} {hz : Hp} {c9 s9 : Nat} (e : F_L_house v0 v1 h = some (r, hz, c9, s9)) : CtW l yL_house M_L_house (some .int) hh_L_house 10 [.ref v0, .ref v1] h c9 s9 (some (.int r)) hz := by
  unfold F_L_house at e
  obtain ⟨g1, e⟩ := gd_some e
  obtain ⟨z, h1, c1, s1, g2, e⟩ := ob4_some e
  refine CtW_of rfl rfl (fun q => by cases q) (Nat.le_of_ble_eq_true rfl) (fun x hx hT hF => ?_)
  subst hx
  show V M_L_house x 10 0 [(0, .ref v0), (1, .ref v1)] [] h c9 s9
  refine V_aload_n (pc := 0) (i := 1) dL_house_0 rfl rfl ?_
  refine V_iconst (pc := 1) (v := 0) dL_house_1 (by decide) ?_
  refine V_aload_n (pc := 2) (i := 0) dL_house_2 rfl rfl ?_
  rcases z with r1 | k
  · replace e : (gd (decide (kd h1 v1 = 16)) <| gd (ix 0 (zl h1 v1)) <| some ((0 : Int32), setL h1 v1 ((0 : Int32)).toNatClampNeg r1.toInt64, c1, s1)) = some (r, hz, c9, s9) := e
    obtain ⟨g3, e⟩ := gd_some e
    obtain ⟨g4, e⟩ := gd_some e
    cases e
    refine V_bud0 ?_
    refine V_callV (pc := 3) (bc := 0) (bs := 0) (st := [.int (0 : Int32), .ref v1]) (As := []) (a := v0) (r := some (.int r1)) dL_house_3 ml_L_7 (ci := 10) rfl (of_decide_eq_true g1) rfl rfl (Nat.le_of_ble_eq_true rfl) (d' := 9) (by decide) (c_X11_house (l := x.2.1) v0  h g2) ?_
    refine V_i2l (pc := 6) dL_house_6 ?_
    refine V_last (pc := 7) dL_house_7 (of_decide_eq_true g3) (ix_in g4) ?_
    refine V_goto (pc := 8) (tgt := 17) dL_house_8 (by decide) ?_
    refine V_iconst (pc := 17) (v := 0) dL_house_17 (by decide) ?_
    exact V_iret (pc := 18) dL_house_18 hF
  · replace e : (if k = 0 then some ((1 : Int32), h1, c1, s1) else if k = 1 then some ((2 : Int32), h1, c1, s1) else none) = some (r, hz, c9, s9) := e
    by_cases k0 : k = 0
    · rw [if_pos k0] at e
      cases e
      subst k0
      refine V_bud0 ?_
      refine V_catch (pc := 3) (bc := 0) (bs := 0) (hh := hh_L_house) (st := [.int (0 : Int32), .ref v1]) (As := []) (a := v0) (hpc := 11) (k9 := 2) (len := 1) (lv' := [(0, .ref v0), (1, .ref v1)]) hT dL_house_3 ml_L_7 (ci := 10) rfl (of_decide_eq_true g1) rfl rfl (Nat.le_of_ble_eq_true rfl) (d' := 9) (by decide) (cX_X11_house (l := x.2.1) hst v0  h g2) hd_L_house_11 (Or.inr ⟨2, dL_house_11, rfl, rfl⟩) (by decide) rfl ?_
      refine V_iconst (pc := 12) (v := (1 : Int32)) dL_house_12 (by decide) ?_
      exact V_iret (pc := 13) dL_house_13 hF
    · rw [if_neg k0] at e
      by_cases k1 : k = 1
      · rw [if_pos k1] at e
        cases e
        subst k1
        refine V_bud0 ?_
        refine V_catch (pc := 3) (bc := 0) (bs := 0) (hh := hh_L_house) (st := [.int (0 : Int32), .ref v1]) (As := []) (a := v0) (hpc := 14) (k9 := 2) (len := 1) (lv' := [(0, .ref v0), (1, .ref v1)]) hT dL_house_3 ml_L_7 (ci := 10) rfl (of_decide_eq_true g1) rfl rfl (Nat.le_of_ble_eq_true rfl) (d' := 9) (by decide) (cX_X11_house (l := x.2.1) hst v0  h g2) hd_L_house_14 (Or.inr ⟨2, dL_house_14, rfl, rfl⟩) (by decide) rfl ?_
        refine V_iconst (pc := 15) (v := (2 : Int32)) dL_house_15 (by decide) ?_
        exact V_iret (pc := 16) dL_house_16 hF
      · rw [if_neg k1] at e
        cases e
theorem dL_wishes_0 : decode cL_wishes 0 = .ok (.aload_n 2, 1) := by decide +kernel
theorem dL_wishes_1 : decode cL_wishes 1 = .ok (.iconst 0, 1) := by decide +kernel
theorem dL_wishes_2 : decode cL_wishes 2 = .ok (.aload_n 0, 1) := by decide +kernel
theorem dL_wishes_3 : decode cL_wishes 3 = .ok (.iload_n 1, 1) := by decide +kernel
theorem dL_wishes_4 : decode cL_wishes 4 = .ok (.invokevirtual 17, 3) := by decide +kernel
theorem dL_wishes_7 : decode cL_wishes 7 = .ok (.i2l, 1) := by decide +kernel
theorem dL_wishes_8 : decode cL_wishes 8 = .ok (.lastore, 1) := by decide +kernel
theorem dL_wishes_9 : decode cL_wishes 9 = .ok (.goto 9, 3) := by decide +kernel
theorem dL_wishes_12 : decode cL_wishes 12 = .ok (.astore_n 3, 1) := by decide +kernel
theorem dL_wishes_13 : decode cL_wishes 13 = .ok (.iconst 1, 1) := by decide +kernel
theorem dL_wishes_14 : decode cL_wishes 14 = .ok (.ireturn, 1) := by decide +kernel
theorem dL_wishes_15 : decode cL_wishes 15 = .ok (.astore_n 3, 1) := by decide +kernel
theorem dL_wishes_16 : decode cL_wishes 16 = .ok (.iconst 2, 1) := by decide +kernel
theorem dL_wishes_17 : decode cL_wishes 17 = .ok (.ireturn, 1) := by decide +kernel
theorem dL_wishes_18 : decode cL_wishes 18 = .ok (.iconst 0, 1) := by decide +kernel
theorem dL_wishes_19 : decode cL_wishes 19 = .ok (.ireturn, 1) := by decide +kernel
def F_L_wishes (v0 : Nat) (v1 : Int32) (v2 : Nat) (h : Hp) : Option (Int32 × Hp × Nat × Nat) :=
  gd (decide (kd h v0 = 10)) <| ob4 (F_X11_wishes v0 v1 h) fun z h1 c1 s1 => sm z (fun r1 => gd (decide (kd h1 v2 = 16)) <| gd (ix 0 (zl h1 v2)) <| some ((0 : Int32), setL h1 v2 ((0 : Int32)).toNatClampNeg r1.toInt64, c1, s1)) (fun k => if k = 2 then some ((1 : Int32), h1, c1, s1) else if k = 0 then some ((2 : Int32), h1, c1, s1) else none)
set_option maxHeartbeats 4000000 in
set_option maxRecDepth 100000 in
theorem c_L_wishes {l : Launch} (hst : l.stackTraces = false) (v0 : Nat) (v1 : Int32) (v2 : Nat) (h : Hp) {r : Int32} {hz : Hp} {c9 s9 : Nat} (e : F_L_wishes v0 v1 v2 h = some (r, hz, c9, s9)) : CtW l yL_wishes M_L_wishes (some .int) hh_L_wishes 64 [.ref v0, .int v1, .ref v2] h c9 s9 (some (.int r)) hz := by
  unfold F_L_wishes at e
  obtain ⟨g1, e⟩ := gd_some e
  obtain ⟨z, h1, c1, s1, g2, e⟩ := ob4_some e
  refine CtW_of rfl rfl (fun q => by cases q) (Nat.le_of_ble_eq_true rfl) (fun x hx hT hF => ?_)
  subst hx
  show V M_L_wishes x 64 0 [(0, .ref v0), (1, .int v1), (2, .ref v2)] [] h c9 s9
  refine V_aload_n (pc := 0) (i := 2) dL_wishes_0 rfl rfl ?_
  refine V_iconst (pc := 1) (v := 0) dL_wishes_1 (by decide) ?_
  refine V_aload_n (pc := 2) (i := 0) dL_wishes_2 rfl rfl ?_
  refine V_iload_n (pc := 3) (i := 1) dL_wishes_3 rfl rfl ?_
  rcases z with r1 | k
  · replace e : (gd (decide (kd h1 v2 = 16)) <| gd (ix 0 (zl h1 v2)) <| some ((0 : Int32), setL h1 v2 ((0 : Int32)).toNatClampNeg r1.toInt64, c1, s1)) = some (r, hz, c9, s9) := e
    obtain ⟨g3, e⟩ := gd_some e
    obtain ⟨g4, e⟩ := gd_some e
    cases e
    refine V_bud0 ?_
    refine V_callV (pc := 4) (bc := 0) (bs := 0) (st := [.int (0 : Int32), .ref v2]) (As := [.int v1]) (a := v0) (r := some (.int r1)) dL_wishes_4 ml_L_17 (ci := 10) rfl (of_decide_eq_true g1) rfl rfl (Nat.le_of_ble_eq_true rfl) (d' := 63) (by decide) (c_X11_wishes (l := x.2.1) v0 v1 h g2) ?_
    refine V_i2l (pc := 7) dL_wishes_7 ?_
    refine V_last (pc := 8) dL_wishes_8 (of_decide_eq_true g3) (ix_in g4) ?_
    refine V_goto (pc := 9) (tgt := 18) dL_wishes_9 (by decide) ?_
    refine V_iconst (pc := 18) (v := 0) dL_wishes_18 (by decide) ?_
    exact V_iret (pc := 19) dL_wishes_19 hF
  · replace e : (if k = 2 then some ((1 : Int32), h1, c1, s1) else if k = 0 then some ((2 : Int32), h1, c1, s1) else none) = some (r, hz, c9, s9) := e
    by_cases k0 : k = 2
    · rw [if_pos k0] at e
      cases e
      subst k0
      refine V_bud0 ?_
      refine V_catch (pc := 4) (bc := 0) (bs := 0) (hh := hh_L_wishes) (st := [.int (0 : Int32), .ref v2]) (As := [.int v1]) (a := v0) (hpc := 12) (k9 := 3) (len := 1) (lv' := [(0, .ref v0), (1, .int v1), (2, .ref v2)]) hT dL_wishes_4 ml_L_17 (ci := 10) rfl (of_decide_eq_true g1) rfl rfl (Nat.le_of_ble_eq_true rfl) (d' := 63) (by decide) (cX_X11_wishes (l := x.2.1) hst v0 v1 h g2) hd_L_wishes_12 (Or.inr ⟨3, dL_wishes_12, rfl, rfl⟩) (by decide) rfl ?_
      refine V_iconst (pc := 13) (v := (1 : Int32)) dL_wishes_13 (by decide) ?_
      exact V_iret (pc := 14) dL_wishes_14 hF
    · rw [if_neg k0] at e
      by_cases k1 : k = 0
      · rw [if_pos k1] at e
        cases e
        subst k1
        refine V_bud0 ?_
        refine V_catch (pc := 4) (bc := 0) (bs := 0) (hh := hh_L_wishes) (st := [.int (0 : Int32), .ref v2]) (As := [.int v1]) (a := v0) (hpc := 15) (k9 := 3) (len := 1) (lv' := [(0, .ref v0), (1, .int v1), (2, .ref v2)]) hT dL_wishes_4 ml_L_17 (ci := 10) rfl (of_decide_eq_true g1) rfl rfl (Nat.le_of_ble_eq_true rfl) (d' := 63) (by decide) (cX_X11_wishes (l := x.2.1) hst v0 v1 h g2) hd_L_wishes_15 (Or.inr ⟨3, dL_wishes_15, rfl, rfl⟩) (by decide) rfl ?_
        refine V_iconst (pc := 16) (v := (2 : Int32)) dL_wishes_16 (by decide) ?_
        exact V_iret (pc := 17) dL_wishes_17 hF
      · rw [if_neg k1] at e
        cases e
theorem dL_book_0 : decode cL_book 0 = .ok (.aload_n 1, 1) := by decide +kernel
theorem dL_book_1 : decode cL_book 1 = .ok (.iconst 0, 1) := by decide +kernel
theorem dL_book_2 : decode cL_book 2 = .ok (.aload_n 0, 1) := by decide +kernel
theorem dL_book_3 : decode cL_book 3 = .ok (.invokevirtual 23, 3) := by decide +kernel
theorem dL_book_6 : decode cL_book 6 = .ok (.i2l, 1) := by decide +kernel
theorem dL_book_7 : decode cL_book 7 = .ok (.lastore, 1) := by decide +kernel
theorem dL_book_8 : decode cL_book 8 = .ok (.goto 6, 3) := by decide +kernel
theorem dL_book_11 : decode cL_book 11 = .ok (.astore_n 2, 1) := by decide +kernel
theorem dL_book_12 : decode cL_book 12 = .ok (.iconst 1, 1) := by decide +kernel
theorem dL_book_13 : decode cL_book 13 = .ok (.ireturn, 1) := by decide +kernel
theorem dL_book_14 : decode cL_book 14 = .ok (.iconst 0, 1) := by decide +kernel
theorem dL_book_15 : decode cL_book 15 = .ok (.ireturn, 1) := by decide +kernel
def F_L_book (v0 : Nat) (v1 : Nat) (h : Hp) : Option (Int32 × Hp × Nat × Nat) :=
  gd (decide (kd h v0 = 10)) <| ob4 (F_X11_book v0  h) fun z h1 c1 s1 => sm z (fun r1 => gd (decide (kd h1 v1 = 16)) <| gd (ix 0 (zl h1 v1)) <| some ((0 : Int32), setL h1 v1 ((0 : Int32)).toNatClampNeg r1.toInt64, c1, s1)) (fun k => if k = 0 then some ((1 : Int32), h1, c1, s1) else none)
set_option maxHeartbeats 4000000 in
set_option maxRecDepth 100000 in
theorem c_L_book {l : Launch} (hst : l.stackTraces = false) (v0 : Nat) (v1 : Nat) (h : Hp) {r : Int32} {hz : Hp} {c9 s9 : Nat} (e : F_L_book v0 v1 h = some (r, hz, c9, s9)) : CtW l yL_book M_L_book (some .int) hh_L_book 9 [.ref v0, .ref v1] h c9 s9 (some (.int r)) hz := by
  unfold F_L_book at e
  obtain ⟨g1, e⟩ := gd_some e
  obtain ⟨z, h1, c1, s1, g2, e⟩ := ob4_some e
  refine CtW_of rfl rfl (fun q => by cases q) (Nat.le_of_ble_eq_true rfl) (fun x hx hT hF => ?_)
  subst hx
  show V M_L_book x 9 0 [(0, .ref v0), (1, .ref v1)] [] h c9 s9
  refine V_aload_n (pc := 0) (i := 1) dL_book_0 rfl rfl ?_
  refine V_iconst (pc := 1) (v := 0) dL_book_1 (by decide) ?_
  refine V_aload_n (pc := 2) (i := 0) dL_book_2 rfl rfl ?_
  rcases z with r1 | k
  · replace e : (gd (decide (kd h1 v1 = 16)) <| gd (ix 0 (zl h1 v1)) <| some ((0 : Int32), setL h1 v1 ((0 : Int32)).toNatClampNeg r1.toInt64, c1, s1)) = some (r, hz, c9, s9) := e
    obtain ⟨g3, e⟩ := gd_some e
    obtain ⟨g4, e⟩ := gd_some e
    cases e
    refine V_bud0 ?_
    refine V_callV (pc := 3) (bc := 0) (bs := 0) (st := [.int (0 : Int32), .ref v1]) (As := []) (a := v0) (r := some (.int r1)) dL_book_3 ml_L_23 (ci := 10) rfl (of_decide_eq_true g1) rfl rfl (Nat.le_of_ble_eq_true rfl) (d' := 8) (by decide) (c_X11_book (l := x.2.1) v0  h g2) ?_
    refine V_i2l (pc := 6) dL_book_6 ?_
    refine V_last (pc := 7) dL_book_7 (of_decide_eq_true g3) (ix_in g4) ?_
    refine V_goto (pc := 8) (tgt := 14) dL_book_8 (by decide) ?_
    refine V_iconst (pc := 14) (v := 0) dL_book_14 (by decide) ?_
    exact V_iret (pc := 15) dL_book_15 hF
  · replace e : (if k = 0 then some ((1 : Int32), h1, c1, s1) else none) = some (r, hz, c9, s9) := e
    by_cases k0 : k = 0
    · rw [if_pos k0] at e
      cases e
      subst k0
      refine V_bud0 ?_
      refine V_catch (pc := 3) (bc := 0) (bs := 0) (hh := hh_L_book) (st := [.int (0 : Int32), .ref v1]) (As := []) (a := v0) (hpc := 11) (k9 := 2) (len := 1) (lv' := [(0, .ref v0), (1, .ref v1)]) hT dL_book_3 ml_L_23 (ci := 10) rfl (of_decide_eq_true g1) rfl rfl (Nat.le_of_ble_eq_true rfl) (d' := 8) (by decide) (cX_X11_book (l := x.2.1) hst v0  h g2) hd_L_book_11 (Or.inr ⟨2, dL_book_11, rfl, rfl⟩) (by decide) rfl ?_
      refine V_iconst (pc := 12) (v := (1 : Int32)) dL_book_12 (by decide) ?_
      exact V_iret (pc := 13) dL_book_13 hF
    · rw [if_neg k0] at e
      cases e
theorem dL_room_0 : decode cL_room 0 = .ok (.aload_n 3, 1) := by decide +kernel
theorem dL_room_1 : decode cL_room 1 = .ok (.iconst 0, 1) := by decide +kernel
theorem dL_room_2 : decode cL_room 2 = .ok (.aload_n 0, 1) := by decide +kernel
theorem dL_room_3 : decode cL_room 3 = .ok (.iload_n 1, 1) := by decide +kernel
theorem dL_room_4 : decode cL_room 4 = .ok (.iload_n 2, 1) := by decide +kernel
theorem dL_room_5 : decode cL_room 5 = .ok (.invokevirtual 26, 3) := by decide +kernel
theorem dL_room_8 : decode cL_room 8 = .ok (.i2l, 1) := by decide +kernel
theorem dL_room_9 : decode cL_room 9 = .ok (.lastore, 1) := by decide +kernel
theorem dL_room_10 : decode cL_room 10 = .ok (.goto 11, 3) := by decide +kernel
theorem dL_room_13 : decode cL_room 13 = .ok (.astore 4, 2) := by decide +kernel
theorem dL_room_15 : decode cL_room 15 = .ok (.iconst 1, 1) := by decide +kernel
theorem dL_room_16 : decode cL_room 16 = .ok (.ireturn, 1) := by decide +kernel
theorem dL_room_17 : decode cL_room 17 = .ok (.astore 4, 2) := by decide +kernel
theorem dL_room_19 : decode cL_room 19 = .ok (.iconst 2, 1) := by decide +kernel
theorem dL_room_20 : decode cL_room 20 = .ok (.ireturn, 1) := by decide +kernel
theorem dL_room_21 : decode cL_room 21 = .ok (.iconst 0, 1) := by decide +kernel
theorem dL_room_22 : decode cL_room 22 = .ok (.ireturn, 1) := by decide +kernel
def F_L_room (v0 : Nat) (v1 : Int32) (v2 : Int32) (v3 : Nat) (h : Hp) : Option (Int32 × Hp × Nat × Nat) :=
  gd (decide (kd h v0 = 10)) <| ob4 (F_X11_room v0 v1 v2 h) fun z h1 c1 s1 => sm z (fun r1 => gd (decide (kd h1 v3 = 16)) <| gd (ix 0 (zl h1 v3)) <| some ((0 : Int32), setL h1 v3 ((0 : Int32)).toNatClampNeg r1.toInt64, c1, s1)) (fun k => if k = 2 then some ((1 : Int32), h1, c1, s1) else if k = 3 then some ((2 : Int32), h1, c1, s1) else none)
set_option maxHeartbeats 4000000 in
set_option maxRecDepth 100000 in
theorem c_L_room {l : Launch} (hst : l.stackTraces = false) (v0 : Nat) (v1 : Int32) (v2 : Int32) (v3 : Nat) (h : Hp) {r : Int32} {hz : Hp} {c9 s9 : Nat} (e : F_L_room v0 v1 v2 v3 h = some (r, hz, c9, s9)) : CtW l yL_room M_L_room (some .int) hh_L_room 9 [.ref v0, .int v1, .int v2, .ref v3] h c9 s9 (some (.int r)) hz := by
  unfold F_L_room at e
  obtain ⟨g1, e⟩ := gd_some e
  obtain ⟨z, h1, c1, s1, g2, e⟩ := ob4_some e
  refine CtW_of rfl rfl (fun q => by cases q) (Nat.le_of_ble_eq_true rfl) (fun x hx hT hF => ?_)
  subst hx
  show V M_L_room x 9 0 [(0, .ref v0), (1, .int v1), (2, .int v2), (3, .ref v3)] [] h c9 s9
  refine V_aload_n (pc := 0) (i := 3) dL_room_0 rfl rfl ?_
  refine V_iconst (pc := 1) (v := 0) dL_room_1 (by decide) ?_
  refine V_aload_n (pc := 2) (i := 0) dL_room_2 rfl rfl ?_
  refine V_iload_n (pc := 3) (i := 1) dL_room_3 rfl rfl ?_
  refine V_iload_n (pc := 4) (i := 2) dL_room_4 rfl rfl ?_
  rcases z with r1 | k
  · replace e : (gd (decide (kd h1 v3 = 16)) <| gd (ix 0 (zl h1 v3)) <| some ((0 : Int32), setL h1 v3 ((0 : Int32)).toNatClampNeg r1.toInt64, c1, s1)) = some (r, hz, c9, s9) := e
    obtain ⟨g3, e⟩ := gd_some e
    obtain ⟨g4, e⟩ := gd_some e
    cases e
    refine V_bud0 ?_
    refine V_callV (pc := 5) (bc := 0) (bs := 0) (st := [.int (0 : Int32), .ref v3]) (As := [.int v1, .int v2]) (a := v0) (r := some (.int r1)) dL_room_5 ml_L_26 (ci := 10) rfl (of_decide_eq_true g1) rfl rfl (Nat.le_of_ble_eq_true rfl) (d' := 8) (by decide) (c_X11_room (l := x.2.1) v0 v1 v2 h g2) ?_
    refine V_i2l (pc := 8) dL_room_8 ?_
    refine V_last (pc := 9) dL_room_9 (of_decide_eq_true g3) (ix_in g4) ?_
    refine V_goto (pc := 10) (tgt := 21) dL_room_10 (by decide) ?_
    refine V_iconst (pc := 21) (v := 0) dL_room_21 (by decide) ?_
    exact V_iret (pc := 22) dL_room_22 hF
  · replace e : (if k = 2 then some ((1 : Int32), h1, c1, s1) else if k = 3 then some ((2 : Int32), h1, c1, s1) else none) = some (r, hz, c9, s9) := e
    by_cases k0 : k = 2
    · rw [if_pos k0] at e
      cases e
      subst k0
      refine V_bud0 ?_
      refine V_catch (pc := 5) (bc := 0) (bs := 0) (hh := hh_L_room) (st := [.int (0 : Int32), .ref v3]) (As := [.int v1, .int v2]) (a := v0) (hpc := 13) (k9 := 4) (len := 2) (lv' := [(0, .ref v0), (1, .int v1), (2, .int v2), (3, .ref v3)]) hT dL_room_5 ml_L_26 (ci := 10) rfl (of_decide_eq_true g1) rfl rfl (Nat.le_of_ble_eq_true rfl) (d' := 8) (by decide) (cX_X11_room (l := x.2.1) hst v0 v1 v2 h g2) hd_L_room_13 (Or.inl ⟨dL_room_13, rfl⟩) (by decide) rfl ?_
      refine V_iconst (pc := 15) (v := (1 : Int32)) dL_room_15 (by decide) ?_
      exact V_iret (pc := 16) dL_room_16 hF
    · rw [if_neg k0] at e
      by_cases k1 : k = 3
      · rw [if_pos k1] at e
        cases e
        subst k1
        refine V_bud0 ?_
        refine V_catch (pc := 5) (bc := 0) (bs := 0) (hh := hh_L_room) (st := [.int (0 : Int32), .ref v3]) (As := [.int v1, .int v2]) (a := v0) (hpc := 17) (k9 := 4) (len := 2) (lv' := [(0, .ref v0), (1, .int v1), (2, .int v2), (3, .ref v3)]) hT dL_room_5 ml_L_26 (ci := 10) rfl (of_decide_eq_true g1) rfl rfl (Nat.le_of_ble_eq_true rfl) (d' := 8) (by decide) (cX_X11_room (l := x.2.1) hst v0 v1 v2 h g2) hd_L_room_17 (Or.inl ⟨dL_room_17, rfl⟩) (by decide) rfl ?_
        refine V_iconst (pc := 19) (v := (2 : Int32)) dL_room_19 (by decide) ?_
        exact V_iret (pc := 20) dL_room_20 hF
      · rw [if_neg k1] at e
        cases e
theorem dL_where_0 : decode cL_where 0 = .ok (.aload_n 2, 1) := by decide +kernel
theorem dL_where_1 : decode cL_where 1 = .ok (.iconst 0, 1) := by decide +kernel
theorem dL_where_2 : decode cL_where 2 = .ok (.aload_n 0, 1) := by decide +kernel
theorem dL_where_3 : decode cL_where 3 = .ok (.iload_n 1, 1) := by decide +kernel
theorem dL_where_4 : decode cL_where 4 = .ok (.invokevirtual 32, 3) := by decide +kernel
theorem dL_where_7 : decode cL_where 7 = .ok (.i2l, 1) := by decide +kernel
theorem dL_where_8 : decode cL_where 8 = .ok (.lastore, 1) := by decide +kernel
theorem dL_where_9 : decode cL_where 9 = .ok (.goto 6, 3) := by decide +kernel
theorem dL_where_12 : decode cL_where 12 = .ok (.astore_n 3, 1) := by decide +kernel
theorem dL_where_13 : decode cL_where 13 = .ok (.iconst 1, 1) := by decide +kernel
theorem dL_where_14 : decode cL_where 14 = .ok (.ireturn, 1) := by decide +kernel
theorem dL_where_15 : decode cL_where 15 = .ok (.iconst 0, 1) := by decide +kernel
theorem dL_where_16 : decode cL_where 16 = .ok (.ireturn, 1) := by decide +kernel
def F_L_where (v0 : Nat) (v1 : Int32) (v2 : Nat) (h : Hp) : Option (Int32 × Hp × Nat × Nat) :=
  gd (decide (kd h v0 = 10)) <| ob4 (F_X11_where v0 v1 h) fun z h1 c1 s1 => sm z (fun r1 => gd (decide (kd h1 v2 = 16)) <| gd (ix 0 (zl h1 v2)) <| some ((0 : Int32), setL h1 v2 ((0 : Int32)).toNatClampNeg r1.toInt64, c1, s1)) (fun k => if k = 2 then some ((1 : Int32), h1, c1, s1) else none)
set_option maxHeartbeats 4000000 in
set_option maxRecDepth 100000 in
theorem c_L_where {l : Launch} (hst : l.stackTraces = false) (v0 : Nat) (v1 : Int32) (v2 : Nat) (h : Hp) {r : Int32} {hz : Hp} {c9 s9 : Nat} (e : F_L_where v0 v1 v2 h = some (r, hz, c9, s9)) : CtW l yL_where M_L_where (some .int) hh_L_where 9 [.ref v0, .int v1, .ref v2] h c9 s9 (some (.int r)) hz := by
  unfold F_L_where at e
  obtain ⟨g1, e⟩ := gd_some e
  obtain ⟨z, h1, c1, s1, g2, e⟩ := ob4_some e
  refine CtW_of rfl rfl (fun q => by cases q) (Nat.le_of_ble_eq_true rfl) (fun x hx hT hF => ?_)
  subst hx
  show V M_L_where x 9 0 [(0, .ref v0), (1, .int v1), (2, .ref v2)] [] h c9 s9
  refine V_aload_n (pc := 0) (i := 2) dL_where_0 rfl rfl ?_
  refine V_iconst (pc := 1) (v := 0) dL_where_1 (by decide) ?_
  refine V_aload_n (pc := 2) (i := 0) dL_where_2 rfl rfl ?_
  refine V_iload_n (pc := 3) (i := 1) dL_where_3 rfl rfl ?_
  rcases z with r1 | k
  · replace e : (gd (decide (kd h1 v2 = 16)) <| gd (ix 0 (zl h1 v2)) <| some ((0 : Int32), setL h1 v2 ((0 : Int32)).toNatClampNeg r1.toInt64, c1, s1)) = some (r, hz, c9, s9) := e
    obtain ⟨g3, e⟩ := gd_some e
    obtain ⟨g4, e⟩ := gd_some e
    cases e
    refine V_bud0 ?_
    refine V_callV (pc := 4) (bc := 0) (bs := 0) (st := [.int (0 : Int32), .ref v2]) (As := [.int v1]) (a := v0) (r := some (.int r1)) dL_where_4 ml_L_32 (ci := 10) rfl (of_decide_eq_true g1) rfl rfl (Nat.le_of_ble_eq_true rfl) (d' := 8) (by decide) (c_X11_where (l := x.2.1) v0 v1 h g2) ?_
    refine V_i2l (pc := 7) dL_where_7 ?_
    refine V_last (pc := 8) dL_where_8 (of_decide_eq_true g3) (ix_in g4) ?_
    refine V_goto (pc := 9) (tgt := 15) dL_where_9 (by decide) ?_
    refine V_iconst (pc := 15) (v := 0) dL_where_15 (by decide) ?_
    exact V_iret (pc := 16) dL_where_16 hF
  · replace e : (if k = 2 then some ((1 : Int32), h1, c1, s1) else none) = some (r, hz, c9, s9) := e
    by_cases k0 : k = 2
    · rw [if_pos k0] at e
      cases e
      subst k0
      refine V_bud0 ?_
      refine V_catch (pc := 4) (bc := 0) (bs := 0) (hh := hh_L_where) (st := [.int (0 : Int32), .ref v2]) (As := [.int v1]) (a := v0) (hpc := 12) (k9 := 3) (len := 1) (lv' := [(0, .ref v0), (1, .int v1), (2, .ref v2)]) hT dL_where_4 ml_L_32 (ci := 10) rfl (of_decide_eq_true g1) rfl rfl (Nat.le_of_ble_eq_true rfl) (d' := 8) (by decide) (cX_X11_where (l := x.2.1) hst v0 v1 h g2) hd_L_where_12 (Or.inr ⟨3, dL_where_12, rfl, rfl⟩) (by decide) rfl ?_
      refine V_iconst (pc := 13) (v := (1 : Int32)) dL_where_13 (by decide) ?_
      exact V_iret (pc := 14) dL_where_14 hF
    · rw [if_neg k0] at e
      cases e
theorem dL_trunk_0 : decode cL_trunk 0 = .ok (.aload_n 3, 1) := by decide +kernel
theorem dL_trunk_1 : decode cL_trunk 1 = .ok (.iconst 0, 1) := by decide +kernel
theorem dL_trunk_2 : decode cL_trunk 2 = .ok (.aload_n 0, 1) := by decide +kernel
theorem dL_trunk_3 : decode cL_trunk 3 = .ok (.iload_n 1, 1) := by decide +kernel
theorem dL_trunk_4 : decode cL_trunk 4 = .ok (.iload_n 2, 1) := by decide +kernel
theorem dL_trunk_5 : decode cL_trunk 5 = .ok (.invokevirtual 35, 3) := by decide +kernel
theorem dL_trunk_8 : decode cL_trunk 8 = .ok (.i2l, 1) := by decide +kernel
theorem dL_trunk_9 : decode cL_trunk 9 = .ok (.lastore, 1) := by decide +kernel
theorem dL_trunk_10 : decode cL_trunk 10 = .ok (.goto 11, 3) := by decide +kernel
theorem dL_trunk_13 : decode cL_trunk 13 = .ok (.astore 4, 2) := by decide +kernel
theorem dL_trunk_15 : decode cL_trunk 15 = .ok (.iconst 1, 1) := by decide +kernel
theorem dL_trunk_16 : decode cL_trunk 16 = .ok (.ireturn, 1) := by decide +kernel
theorem dL_trunk_17 : decode cL_trunk 17 = .ok (.astore 4, 2) := by decide +kernel
theorem dL_trunk_19 : decode cL_trunk 19 = .ok (.iconst 2, 1) := by decide +kernel
theorem dL_trunk_20 : decode cL_trunk 20 = .ok (.ireturn, 1) := by decide +kernel
theorem dL_trunk_21 : decode cL_trunk 21 = .ok (.iconst 0, 1) := by decide +kernel
theorem dL_trunk_22 : decode cL_trunk 22 = .ok (.ireturn, 1) := by decide +kernel
def F_L_trunk (v0 : Nat) (v1 : Int32) (v2 : Int32) (v3 : Nat) (h : Hp) : Option (Int32 × Hp × Nat × Nat) :=
  gd (decide (kd h v0 = 10)) <| ob4 (F_X11_trunk v0 v1 v2 h) fun z h1 c1 s1 => sm z (fun r1 => gd (decide (kd h1 v3 = 16)) <| gd (ix 0 (zl h1 v3)) <| some ((0 : Int32), setL h1 v3 ((0 : Int32)).toNatClampNeg r1.toInt64, c1, s1)) (fun k => if k = 2 then some ((1 : Int32), h1, c1, s1) else if k = 3 then some ((2 : Int32), h1, c1, s1) else none)
set_option maxHeartbeats 4000000 in
set_option maxRecDepth 100000 in
theorem c_L_trunk {l : Launch} (hst : l.stackTraces = false) (v0 : Nat) (v1 : Int32) (v2 : Int32) (v3 : Nat) (h : Hp) {r : Int32} {hz : Hp} {c9 s9 : Nat} (e : F_L_trunk v0 v1 v2 v3 h = some (r, hz, c9, s9)) : CtW l yL_trunk M_L_trunk (some .int) hh_L_trunk 9 [.ref v0, .int v1, .int v2, .ref v3] h c9 s9 (some (.int r)) hz := by
  unfold F_L_trunk at e
  obtain ⟨g1, e⟩ := gd_some e
  obtain ⟨z, h1, c1, s1, g2, e⟩ := ob4_some e
  refine CtW_of rfl rfl (fun q => by cases q) (Nat.le_of_ble_eq_true rfl) (fun x hx hT hF => ?_)
  subst hx
  show V M_L_trunk x 9 0 [(0, .ref v0), (1, .int v1), (2, .int v2), (3, .ref v3)] [] h c9 s9
  refine V_aload_n (pc := 0) (i := 3) dL_trunk_0 rfl rfl ?_
  refine V_iconst (pc := 1) (v := 0) dL_trunk_1 (by decide) ?_
  refine V_aload_n (pc := 2) (i := 0) dL_trunk_2 rfl rfl ?_
  refine V_iload_n (pc := 3) (i := 1) dL_trunk_3 rfl rfl ?_
  refine V_iload_n (pc := 4) (i := 2) dL_trunk_4 rfl rfl ?_
  rcases z with r1 | k
  · replace e : (gd (decide (kd h1 v3 = 16)) <| gd (ix 0 (zl h1 v3)) <| some ((0 : Int32), setL h1 v3 ((0 : Int32)).toNatClampNeg r1.toInt64, c1, s1)) = some (r, hz, c9, s9) := e
    obtain ⟨g3, e⟩ := gd_some e
    obtain ⟨g4, e⟩ := gd_some e
    cases e
    refine V_bud0 ?_
    refine V_callV (pc := 5) (bc := 0) (bs := 0) (st := [.int (0 : Int32), .ref v3]) (As := [.int v1, .int v2]) (a := v0) (r := some (.int r1)) dL_trunk_5 ml_L_35 (ci := 10) rfl (of_decide_eq_true g1) rfl rfl (Nat.le_of_ble_eq_true rfl) (d' := 8) (by decide) (c_X11_trunk (l := x.2.1) v0 v1 v2 h g2) ?_
    refine V_i2l (pc := 8) dL_trunk_8 ?_
    refine V_last (pc := 9) dL_trunk_9 (of_decide_eq_true g3) (ix_in g4) ?_
    refine V_goto (pc := 10) (tgt := 21) dL_trunk_10 (by decide) ?_
    refine V_iconst (pc := 21) (v := 0) dL_trunk_21 (by decide) ?_
    exact V_iret (pc := 22) dL_trunk_22 hF
  · replace e : (if k = 2 then some ((1 : Int32), h1, c1, s1) else if k = 3 then some ((2 : Int32), h1, c1, s1) else none) = some (r, hz, c9, s9) := e
    by_cases k0 : k = 2
    · rw [if_pos k0] at e
      cases e
      subst k0
      refine V_bud0 ?_
      refine V_catch (pc := 5) (bc := 0) (bs := 0) (hh := hh_L_trunk) (st := [.int (0 : Int32), .ref v3]) (As := [.int v1, .int v2]) (a := v0) (hpc := 13) (k9 := 4) (len := 2) (lv' := [(0, .ref v0), (1, .int v1), (2, .int v2), (3, .ref v3)]) hT dL_trunk_5 ml_L_35 (ci := 10) rfl (of_decide_eq_true g1) rfl rfl (Nat.le_of_ble_eq_true rfl) (d' := 8) (by decide) (cX_X11_trunk (l := x.2.1) hst v0 v1 v2 h g2) hd_L_trunk_13 (Or.inl ⟨dL_trunk_13, rfl⟩) (by decide) rfl ?_
      refine V_iconst (pc := 15) (v := (1 : Int32)) dL_trunk_15 (by decide) ?_
      exact V_iret (pc := 16) dL_trunk_16 hF
    · rw [if_neg k0] at e
      by_cases k1 : k = 3
      · rw [if_pos k1] at e
        cases e
        subst k1
        refine V_bud0 ?_
        refine V_catch (pc := 5) (bc := 0) (bs := 0) (hh := hh_L_trunk) (st := [.int (0 : Int32), .ref v3]) (As := [.int v1, .int v2]) (a := v0) (hpc := 17) (k9 := 4) (len := 2) (lv' := [(0, .ref v0), (1, .int v1), (2, .int v2), (3, .ref v3)]) hT dL_trunk_5 ml_L_35 (ci := 10) rfl (of_decide_eq_true g1) rfl rfl (Nat.le_of_ble_eq_true rfl) (d' := 8) (by decide) (cX_X11_trunk (l := x.2.1) hst v0 v1 v2 h g2) hd_L_trunk_17 (Or.inl ⟨dL_trunk_17, rfl⟩) (by decide) rfl ?_
        refine V_iconst (pc := 19) (v := (2 : Int32)) dL_trunk_19 (by decide) ?_
        exact V_iret (pc := 20) dL_trunk_20 hF
      · rw [if_neg k1] at e
        cases e
theorem dL_go_0 : decode cL_go 0 = .ok (.aload_n 3, 1) := by decide +kernel
theorem dL_go_1 : decode cL_go 1 = .ok (.iconst 0, 1) := by decide +kernel
theorem dL_go_2 : decode cL_go 2 = .ok (.aload_n 0, 1) := by decide +kernel
theorem dL_go_3 : decode cL_go 3 = .ok (.iload_n 1, 1) := by decide +kernel
theorem dL_go_4 : decode cL_go 4 = .ok (.iload_n 2, 1) := by decide +kernel
theorem dL_go_5 : decode cL_go 5 = .ok (.invokevirtual 38, 3) := by decide +kernel
theorem dL_go_8 : decode cL_go 8 = .ok (.i2l, 1) := by decide +kernel
theorem dL_go_9 : decode cL_go 9 = .ok (.lastore, 1) := by decide +kernel
theorem dL_go_10 : decode cL_go 10 = .ok (.goto 7, 3) := by decide +kernel
theorem dL_go_13 : decode cL_go 13 = .ok (.astore 4, 2) := by decide +kernel
theorem dL_go_15 : decode cL_go 15 = .ok (.iconst 1, 1) := by decide +kernel
theorem dL_go_16 : decode cL_go 16 = .ok (.ireturn, 1) := by decide +kernel
theorem dL_go_17 : decode cL_go 17 = .ok (.iconst 0, 1) := by decide +kernel
theorem dL_go_18 : decode cL_go 18 = .ok (.ireturn, 1) := by decide +kernel
def F_L_go (v0 : Nat) (v1 : Int32) (v2 : Int32) (v3 : Nat) (h : Hp) : Option (Int32 × Hp × Nat × Nat) :=
  gd (decide (kd h v0 = 10)) <| ob4 (F_X11_go v0 v1 v2 h) fun z h1 c1 s1 => sm z (fun r1 => gd (decide (kd h1 v3 = 16)) <| gd (ix 0 (zl h1 v3)) <| some ((0 : Int32), setL h1 v3 ((0 : Int32)).toNatClampNeg r1.toInt64, c1, s1)) (fun k => if k = 2 then some ((1 : Int32), h1, c1, s1) else none)
set_option maxHeartbeats 4000000 in
set_option maxRecDepth 100000 in
theorem c_L_go {l : Launch} (hst : l.stackTraces = false) (v0 : Nat) (v1 : Int32) (v2 : Int32) (v3 : Nat) (h : Hp) {r : Int32} {hz : Hp} {c9 s9 : Nat} (e : F_L_go v0 v1 v2 v3 h = some (r, hz, c9, s9)) : CtW l yL_go M_L_go (some .int) hh_L_go 9 [.ref v0, .int v1, .int v2, .ref v3] h c9 s9 (some (.int r)) hz := by
  unfold F_L_go at e
  obtain ⟨g1, e⟩ := gd_some e
  obtain ⟨z, h1, c1, s1, g2, e⟩ := ob4_some e
  refine CtW_of rfl rfl (fun q => by cases q) (Nat.le_of_ble_eq_true rfl) (fun x hx hT hF => ?_)
  subst hx
  show V M_L_go x 9 0 [(0, .ref v0), (1, .int v1), (2, .int v2), (3, .ref v3)] [] h c9 s9
  refine V_aload_n (pc := 0) (i := 3) dL_go_0 rfl rfl ?_
  refine V_iconst (pc := 1) (v := 0) dL_go_1 (by decide) ?_
  refine V_aload_n (pc := 2) (i := 0) dL_go_2 rfl rfl ?_
  refine V_iload_n (pc := 3) (i := 1) dL_go_3 rfl rfl ?_
  refine V_iload_n (pc := 4) (i := 2) dL_go_4 rfl rfl ?_
  rcases z with r1 | k
  · replace e : (gd (decide (kd h1 v3 = 16)) <| gd (ix 0 (zl h1 v3)) <| some ((0 : Int32), setL h1 v3 ((0 : Int32)).toNatClampNeg r1.toInt64, c1, s1)) = some (r, hz, c9, s9) := e
    obtain ⟨g3, e⟩ := gd_some e
    obtain ⟨g4, e⟩ := gd_some e
    cases e
    refine V_bud0 ?_
    refine V_callV (pc := 5) (bc := 0) (bs := 0) (st := [.int (0 : Int32), .ref v3]) (As := [.int v1, .int v2]) (a := v0) (r := some (.int r1)) dL_go_5 ml_L_38 (ci := 10) rfl (of_decide_eq_true g1) rfl rfl (Nat.le_of_ble_eq_true rfl) (d' := 8) (by decide) (c_X11_go (l := x.2.1) v0 v1 v2 h g2) ?_
    refine V_i2l (pc := 8) dL_go_8 ?_
    refine V_last (pc := 9) dL_go_9 (of_decide_eq_true g3) (ix_in g4) ?_
    refine V_goto (pc := 10) (tgt := 17) dL_go_10 (by decide) ?_
    refine V_iconst (pc := 17) (v := 0) dL_go_17 (by decide) ?_
    exact V_iret (pc := 18) dL_go_18 hF
  · replace e : (if k = 2 then some ((1 : Int32), h1, c1, s1) else none) = some (r, hz, c9, s9) := e
    by_cases k0 : k = 2
    · rw [if_pos k0] at e
      cases e
      subst k0
      refine V_bud0 ?_
      refine V_catch (pc := 5) (bc := 0) (bs := 0) (hh := hh_L_go) (st := [.int (0 : Int32), .ref v3]) (As := [.int v1, .int v2]) (a := v0) (hpc := 13) (k9 := 4) (len := 2) (lv' := [(0, .ref v0), (1, .int v1), (2, .int v2), (3, .ref v3)]) hT dL_go_5 ml_L_38 (ci := 10) rfl (of_decide_eq_true g1) rfl rfl (Nat.le_of_ble_eq_true rfl) (d' := 8) (by decide) (cX_X11_go (l := x.2.1) hst v0 v1 v2 h g2) hd_L_go_13 (Or.inl ⟨dL_go_13, rfl⟩) (by decide) rfl ?_
      refine V_iconst (pc := 15) (v := (1 : Int32)) dL_go_15 (by decide) ?_
      exact V_iret (pc := 16) dL_go_16 hF
    · rw [if_neg k0] at e
      cases e
theorem dL_moment_0 : decode cL_moment 0 = .ok (.aload_n 3, 1) := by decide +kernel
theorem dL_moment_1 : decode cL_moment 1 = .ok (.iconst 0, 1) := by decide +kernel
theorem dL_moment_2 : decode cL_moment 2 = .ok (.aload_n 0, 1) := by decide +kernel
theorem dL_moment_3 : decode cL_moment 3 = .ok (.iload_n 1, 1) := by decide +kernel
theorem dL_moment_4 : decode cL_moment 4 = .ok (.iload_n 2, 1) := by decide +kernel
theorem dL_moment_5 : decode cL_moment 5 = .ok (.invokevirtual 41, 3) := by decide +kernel
theorem dL_moment_8 : decode cL_moment 8 = .ok (.i2l, 1) := by decide +kernel
theorem dL_moment_9 : decode cL_moment 9 = .ok (.lastore, 1) := by decide +kernel
theorem dL_moment_10 : decode cL_moment 10 = .ok (.goto 7, 3) := by decide +kernel
theorem dL_moment_13 : decode cL_moment 13 = .ok (.astore 4, 2) := by decide +kernel
theorem dL_moment_15 : decode cL_moment 15 = .ok (.iconst 1, 1) := by decide +kernel
theorem dL_moment_16 : decode cL_moment 16 = .ok (.ireturn, 1) := by decide +kernel
theorem dL_moment_17 : decode cL_moment 17 = .ok (.iconst 0, 1) := by decide +kernel
theorem dL_moment_18 : decode cL_moment 18 = .ok (.ireturn, 1) := by decide +kernel
def F_L_moment (v0 : Nat) (v1 : Int32) (v2 : Int32) (v3 : Nat) (h : Hp) : Option (Int32 × Hp × Nat × Nat) :=
  gd (decide (kd h v0 = 10)) <| ob4 (F_X11_moment v0 v1 v2 h) fun z h1 c1 s1 => sm z (fun r1 => gd (decide (kd h1 v3 = 16)) <| gd (ix 0 (zl h1 v3)) <| some ((0 : Int32), setL h1 v3 ((0 : Int32)).toNatClampNeg r1.toInt64, c1, s1)) (fun k => if k = 3 then some ((1 : Int32), h1, c1, s1) else none)
set_option maxHeartbeats 4000000 in
set_option maxRecDepth 100000 in
theorem c_L_moment {l : Launch} (hst : l.stackTraces = false) (v0 : Nat) (v1 : Int32) (v2 : Int32) (v3 : Nat) (h : Hp) {r : Int32} {hz : Hp} {c9 s9 : Nat} (e : F_L_moment v0 v1 v2 v3 h = some (r, hz, c9, s9)) : CtW l yL_moment M_L_moment (some .int) hh_L_moment 9 [.ref v0, .int v1, .int v2, .ref v3] h c9 s9 (some (.int r)) hz := by
  unfold F_L_moment at e
  obtain ⟨g1, e⟩ := gd_some e
  obtain ⟨z, h1, c1, s1, g2, e⟩ := ob4_some e
  refine CtW_of rfl rfl (fun q => by cases q) (Nat.le_of_ble_eq_true rfl) (fun x hx hT hF => ?_)
  subst hx
  show V M_L_moment x 9 0 [(0, .ref v0), (1, .int v1), (2, .int v2), (3, .ref v3)] [] h c9 s9
  refine V_aload_n (pc := 0) (i := 3) dL_moment_0 rfl rfl ?_
  refine V_iconst (pc := 1) (v := 0) dL_moment_1 (by decide) ?_
  refine V_aload_n (pc := 2) (i := 0) dL_moment_2 rfl rfl ?_
  refine V_iload_n (pc := 3) (i := 1) dL_moment_3 rfl rfl ?_
  refine V_iload_n (pc := 4) (i := 2) dL_moment_4 rfl rfl ?_
  rcases z with r1 | k
  · replace e : (gd (decide (kd h1 v3 = 16)) <| gd (ix 0 (zl h1 v3)) <| some ((0 : Int32), setL h1 v3 ((0 : Int32)).toNatClampNeg r1.toInt64, c1, s1)) = some (r, hz, c9, s9) := e
    obtain ⟨g3, e⟩ := gd_some e
    obtain ⟨g4, e⟩ := gd_some e
    cases e
    refine V_bud0 ?_
    refine V_callV (pc := 5) (bc := 0) (bs := 0) (st := [.int (0 : Int32), .ref v3]) (As := [.int v1, .int v2]) (a := v0) (r := some (.int r1)) dL_moment_5 ml_L_41 (ci := 10) rfl (of_decide_eq_true g1) rfl rfl (Nat.le_of_ble_eq_true rfl) (d' := 8) (by decide) (c_X11_moment (l := x.2.1) v0 v1 v2 h g2) ?_
    refine V_i2l (pc := 8) dL_moment_8 ?_
    refine V_last (pc := 9) dL_moment_9 (of_decide_eq_true g3) (ix_in g4) ?_
    refine V_goto (pc := 10) (tgt := 17) dL_moment_10 (by decide) ?_
    refine V_iconst (pc := 17) (v := 0) dL_moment_17 (by decide) ?_
    exact V_iret (pc := 18) dL_moment_18 hF
  · replace e : (if k = 3 then some ((1 : Int32), h1, c1, s1) else none) = some (r, hz, c9, s9) := e
    by_cases k0 : k = 3
    · rw [if_pos k0] at e
      cases e
      subst k0
      refine V_bud0 ?_
      refine V_catch (pc := 5) (bc := 0) (bs := 0) (hh := hh_L_moment) (st := [.int (0 : Int32), .ref v3]) (As := [.int v1, .int v2]) (a := v0) (hpc := 13) (k9 := 4) (len := 2) (lv' := [(0, .ref v0), (1, .int v1), (2, .int v2), (3, .ref v3)]) hT dL_moment_5 ml_L_41 (ci := 10) rfl (of_decide_eq_true g1) rfl rfl (Nat.le_of_ble_eq_true rfl) (d' := 8) (by decide) (cX_X11_moment (l := x.2.1) hst v0 v1 v2 h g2) hd_L_moment_13 (Or.inl ⟨dL_moment_13, rfl⟩) (by decide) rfl ?_
      refine V_iconst (pc := 15) (v := (1 : Int32)) dL_moment_15 (by decide) ?_
      exact V_iret (pc := 16) dL_moment_16 hF
    · rw [if_neg k0] at e
      cases e
theorem dL_met_0 : decode cL_met 0 = .ok (.aload_n 2, 1) := by decide +kernel
theorem dL_met_1 : decode cL_met 1 = .ok (.iconst 0, 1) := by decide +kernel
theorem dL_met_2 : decode cL_met 2 = .ok (.aload_n 0, 1) := by decide +kernel
theorem dL_met_3 : decode cL_met 3 = .ok (.iload_n 1, 1) := by decide +kernel
theorem dL_met_4 : decode cL_met 4 = .ok (.invokevirtual 45, 3) := by decide +kernel
theorem dL_met_7 : decode cL_met 7 = .ok (.i2l, 1) := by decide +kernel
theorem dL_met_8 : decode cL_met 8 = .ok (.lastore, 1) := by decide +kernel
theorem dL_met_9 : decode cL_met 9 = .ok (.goto 6, 3) := by decide +kernel
theorem dL_met_12 : decode cL_met 12 = .ok (.astore_n 3, 1) := by decide +kernel
theorem dL_met_13 : decode cL_met 13 = .ok (.iconst 1, 1) := by decide +kernel
theorem dL_met_14 : decode cL_met 14 = .ok (.ireturn, 1) := by decide +kernel
theorem dL_met_15 : decode cL_met 15 = .ok (.iconst 0, 1) := by decide +kernel
theorem dL_met_16 : decode cL_met 16 = .ok (.ireturn, 1) := by decide +kernel
def F_L_met (v0 : Nat) (v1 : Int32) (v2 : Nat) (h : Hp) : Option (Int32 × Hp × Nat × Nat) :=
  gd (decide (kd h v0 = 10)) <| ob4 (F_X11_met v0 v1 h) fun z h1 c1 s1 => sm z (fun r1 => gd (decide (kd h1 v2 = 16)) <| gd (ix 0 (zl h1 v2)) <| some ((0 : Int32), setL h1 v2 ((0 : Int32)).toNatClampNeg r1.toInt64, c1, s1)) (fun k => if k = 2 then some ((1 : Int32), h1, c1, s1) else none)
set_option maxHeartbeats 4000000 in
set_option maxRecDepth 100000 in
theorem c_L_met {l : Launch} (hst : l.stackTraces = false) (v0 : Nat) (v1 : Int32) (v2 : Nat) (h : Hp) {r : Int32} {hz : Hp} {c9 s9 : Nat} (e : F_L_met v0 v1 v2 h = some (r, hz, c9, s9)) : CtW l yL_met M_L_met (some .int) hh_L_met 9 [.ref v0, .int v1, .ref v2] h c9 s9 (some (.int r)) hz := by
  unfold F_L_met at e
  obtain ⟨g1, e⟩ := gd_some e
  obtain ⟨z, h1, c1, s1, g2, e⟩ := ob4_some e
  refine CtW_of rfl rfl (fun q => by cases q) (Nat.le_of_ble_eq_true rfl) (fun x hx hT hF => ?_)
  subst hx
  show V M_L_met x 9 0 [(0, .ref v0), (1, .int v1), (2, .ref v2)] [] h c9 s9
  refine V_aload_n (pc := 0) (i := 2) dL_met_0 rfl rfl ?_
  refine V_iconst (pc := 1) (v := 0) dL_met_1 (by decide) ?_
  refine V_aload_n (pc := 2) (i := 0) dL_met_2 rfl rfl ?_
  refine V_iload_n (pc := 3) (i := 1) dL_met_3 rfl rfl ?_
  rcases z with r1 | k
  · replace e : (gd (decide (kd h1 v2 = 16)) <| gd (ix 0 (zl h1 v2)) <| some ((0 : Int32), setL h1 v2 ((0 : Int32)).toNatClampNeg r1.toInt64, c1, s1)) = some (r, hz, c9, s9) := e
    obtain ⟨g3, e⟩ := gd_some e
    obtain ⟨g4, e⟩ := gd_some e
    cases e
    refine V_bud0 ?_
    refine V_callV (pc := 4) (bc := 0) (bs := 0) (st := [.int (0 : Int32), .ref v2]) (As := [.int v1]) (a := v0) (r := some (.int r1)) dL_met_4 ml_L_45 (ci := 10) rfl (of_decide_eq_true g1) rfl rfl (Nat.le_of_ble_eq_true rfl) (d' := 8) (by decide) (c_X11_met (l := x.2.1) v0 v1 h g2) ?_
    refine V_i2l (pc := 7) dL_met_7 ?_
    refine V_last (pc := 8) dL_met_8 (of_decide_eq_true g3) (ix_in g4) ?_
    refine V_goto (pc := 9) (tgt := 15) dL_met_9 (by decide) ?_
    refine V_iconst (pc := 15) (v := 0) dL_met_15 (by decide) ?_
    exact V_iret (pc := 16) dL_met_16 hF
  · replace e : (if k = 2 then some ((1 : Int32), h1, c1, s1) else none) = some (r, hz, c9, s9) := e
    by_cases k0 : k = 2
    · rw [if_pos k0] at e
      cases e
      subst k0
      refine V_bud0 ?_
      refine V_catch (pc := 4) (bc := 0) (bs := 0) (hh := hh_L_met) (st := [.int (0 : Int32), .ref v2]) (As := [.int v1]) (a := v0) (hpc := 12) (k9 := 3) (len := 1) (lv' := [(0, .ref v0), (1, .int v1), (2, .ref v2)]) hT dL_met_4 ml_L_45 (ci := 10) rfl (of_decide_eq_true g1) rfl rfl (Nat.le_of_ble_eq_true rfl) (d' := 8) (by decide) (cX_X11_met (l := x.2.1) hst v0 v1 h g2) hd_L_met_12 (Or.inr ⟨3, dL_met_12, rfl, rfl⟩) (by decide) rfl ?_
      refine V_iconst (pc := 13) (v := (1 : Int32)) dL_met_13 (by decide) ?_
      exact V_iret (pc := 14) dL_met_14 hF
    · rw [if_neg k0] at e
      cases e
theorem dL_day_0 : decode cL_day 0 = .ok (.aload_n 2, 1) := by decide +kernel
theorem dL_day_1 : decode cL_day 1 = .ok (.iconst 0, 1) := by decide +kernel
theorem dL_day_2 : decode cL_day 2 = .ok (.aload_n 0, 1) := by decide +kernel
theorem dL_day_3 : decode cL_day 3 = .ok (.iload_n 1, 1) := by decide +kernel
theorem dL_day_4 : decode cL_day 4 = .ok (.invokevirtual 48, 3) := by decide +kernel
theorem dL_day_7 : decode cL_day 7 = .ok (.i2l, 1) := by decide +kernel
theorem dL_day_8 : decode cL_day 8 = .ok (.lastore, 1) := by decide +kernel
theorem dL_day_9 : decode cL_day 9 = .ok (.goto 6, 3) := by decide +kernel
theorem dL_day_12 : decode cL_day 12 = .ok (.astore_n 3, 1) := by decide +kernel
theorem dL_day_13 : decode cL_day 13 = .ok (.iconst 1, 1) := by decide +kernel
theorem dL_day_14 : decode cL_day 14 = .ok (.ireturn, 1) := by decide +kernel
theorem dL_day_15 : decode cL_day 15 = .ok (.iconst 0, 1) := by decide +kernel
theorem dL_day_16 : decode cL_day 16 = .ok (.ireturn, 1) := by decide +kernel
def F_L_day (v0 : Nat) (v1 : Int32) (v2 : Nat) (h : Hp) : Option (Int32 × Hp × Nat × Nat) :=
  gd (decide (kd h v0 = 10)) <| ob4 (F_X11_day v0 v1 h) fun z h1 c1 s1 => sm z (fun r1 => gd (decide (kd h1 v2 = 16)) <| gd (ix 0 (zl h1 v2)) <| some ((0 : Int32), setL h1 v2 ((0 : Int32)).toNatClampNeg r1.toInt64, c1, s1)) (fun k => if k = 3 then some ((1 : Int32), h1, c1, s1) else none)
set_option maxHeartbeats 4000000 in
set_option maxRecDepth 100000 in
theorem c_L_day {l : Launch} (hst : l.stackTraces = false) (v0 : Nat) (v1 : Int32) (v2 : Nat) (h : Hp) {r : Int32} {hz : Hp} {c9 s9 : Nat} (e : F_L_day v0 v1 v2 h = some (r, hz, c9, s9)) : CtW l yL_day M_L_day (some .int) hh_L_day 9 [.ref v0, .int v1, .ref v2] h c9 s9 (some (.int r)) hz := by
  unfold F_L_day at e
  obtain ⟨g1, e⟩ := gd_some e
  obtain ⟨z, h1, c1, s1, g2, e⟩ := ob4_some e
  refine CtW_of rfl rfl (fun q => by cases q) (Nat.le_of_ble_eq_true rfl) (fun x hx hT hF => ?_)
  subst hx
  show V M_L_day x 9 0 [(0, .ref v0), (1, .int v1), (2, .ref v2)] [] h c9 s9
  refine V_aload_n (pc := 0) (i := 2) dL_day_0 rfl rfl ?_
  refine V_iconst (pc := 1) (v := 0) dL_day_1 (by decide) ?_
  refine V_aload_n (pc := 2) (i := 0) dL_day_2 rfl rfl ?_
  refine V_iload_n (pc := 3) (i := 1) dL_day_3 rfl rfl ?_
  rcases z with r1 | k
  · replace e : (gd (decide (kd h1 v2 = 16)) <| gd (ix 0 (zl h1 v2)) <| some ((0 : Int32), setL h1 v2 ((0 : Int32)).toNatClampNeg r1.toInt64, c1, s1)) = some (r, hz, c9, s9) := e
    obtain ⟨g3, e⟩ := gd_some e
    obtain ⟨g4, e⟩ := gd_some e
    cases e
    refine V_bud0 ?_
    refine V_callV (pc := 4) (bc := 0) (bs := 0) (st := [.int (0 : Int32), .ref v2]) (As := [.int v1]) (a := v0) (r := some (.int r1)) dL_day_4 ml_L_48 (ci := 10) rfl (of_decide_eq_true g1) rfl rfl (Nat.le_of_ble_eq_true rfl) (d' := 8) (by decide) (c_X11_day (l := x.2.1) v0 v1 h g2) ?_
    refine V_i2l (pc := 7) dL_day_7 ?_
    refine V_last (pc := 8) dL_day_8 (of_decide_eq_true g3) (ix_in g4) ?_
    refine V_goto (pc := 9) (tgt := 15) dL_day_9 (by decide) ?_
    refine V_iconst (pc := 15) (v := 0) dL_day_15 (by decide) ?_
    exact V_iret (pc := 16) dL_day_16 hF
  · replace e : (if k = 3 then some ((1 : Int32), h1, c1, s1) else none) = some (r, hz, c9, s9) := e
    by_cases k0 : k = 3
    · rw [if_pos k0] at e
      cases e
      subst k0
      refine V_bud0 ?_
      refine V_catch (pc := 4) (bc := 0) (bs := 0) (hh := hh_L_day) (st := [.int (0 : Int32), .ref v2]) (As := [.int v1]) (a := v0) (hpc := 12) (k9 := 3) (len := 1) (lv' := [(0, .ref v0), (1, .int v1), (2, .ref v2)]) hT dL_day_4 ml_L_48 (ci := 10) rfl (of_decide_eq_true g1) rfl rfl (Nat.le_of_ble_eq_true rfl) (d' := 8) (by decide) (cX_X11_day (l := x.2.1) hst v0 v1 h g2) hd_L_day_12 (Or.inr ⟨3, dL_day_12, rfl, rfl⟩) (by decide) rfl ?_
      refine V_iconst (pc := 13) (v := (1 : Int32)) dL_day_13 (by decide) ?_
      exact V_iret (pc := 14) dL_day_14 hF
    · rw [if_neg k0] at e
      cases e
theorem dL_seats_0 : decode cL_seats 0 = .ok (.aload_n 2, 1) := by decide +kernel
theorem dL_seats_1 : decode cL_seats 1 = .ok (.iconst 0, 1) := by decide +kernel
theorem dL_seats_2 : decode cL_seats 2 = .ok (.aload_n 0, 1) := by decide +kernel
theorem dL_seats_3 : decode cL_seats 3 = .ok (.iload_n 1, 1) := by decide +kernel
theorem dL_seats_4 : decode cL_seats 4 = .ok (.invokevirtual 51, 3) := by decide +kernel
theorem dL_seats_7 : decode cL_seats 7 = .ok (.i2l, 1) := by decide +kernel
theorem dL_seats_8 : decode cL_seats 8 = .ok (.lastore, 1) := by decide +kernel
theorem dL_seats_9 : decode cL_seats 9 = .ok (.goto 6, 3) := by decide +kernel
theorem dL_seats_12 : decode cL_seats 12 = .ok (.astore_n 3, 1) := by decide +kernel
theorem dL_seats_13 : decode cL_seats 13 = .ok (.iconst 1, 1) := by decide +kernel
theorem dL_seats_14 : decode cL_seats 14 = .ok (.ireturn, 1) := by decide +kernel
theorem dL_seats_15 : decode cL_seats 15 = .ok (.iconst 0, 1) := by decide +kernel
theorem dL_seats_16 : decode cL_seats 16 = .ok (.ireturn, 1) := by decide +kernel
def F_L_seats (v0 : Nat) (v1 : Int32) (v2 : Nat) (h : Hp) : Option (Int32 × Hp × Nat × Nat) :=
  gd (decide (kd h v0 = 10)) <| ob4 (F_X11_seats v0 v1 h) fun z h1 c1 s1 => sm z (fun r1 => gd (decide (kd h1 v2 = 16)) <| gd (ix 0 (zl h1 v2)) <| some ((0 : Int32), setL h1 v2 ((0 : Int32)).toNatClampNeg r1.toInt64, c1, s1)) (fun k => if k = 3 then some ((1 : Int32), h1, c1, s1) else none)
set_option maxHeartbeats 4000000 in
set_option maxRecDepth 100000 in
theorem c_L_seats {l : Launch} (hst : l.stackTraces = false) (v0 : Nat) (v1 : Int32) (v2 : Nat) (h : Hp) {r : Int32} {hz : Hp} {c9 s9 : Nat} (e : F_L_seats v0 v1 v2 h = some (r, hz, c9, s9)) : CtW l yL_seats M_L_seats (some .int) hh_L_seats 9 [.ref v0, .int v1, .ref v2] h c9 s9 (some (.int r)) hz := by
  unfold F_L_seats at e
  obtain ⟨g1, e⟩ := gd_some e
  obtain ⟨z, h1, c1, s1, g2, e⟩ := ob4_some e
  refine CtW_of rfl rfl (fun q => by cases q) (Nat.le_of_ble_eq_true rfl) (fun x hx hT hF => ?_)
  subst hx
  show V M_L_seats x 9 0 [(0, .ref v0), (1, .int v1), (2, .ref v2)] [] h c9 s9
  refine V_aload_n (pc := 0) (i := 2) dL_seats_0 rfl rfl ?_
  refine V_iconst (pc := 1) (v := 0) dL_seats_1 (by decide) ?_
  refine V_aload_n (pc := 2) (i := 0) dL_seats_2 rfl rfl ?_
  refine V_iload_n (pc := 3) (i := 1) dL_seats_3 rfl rfl ?_
  rcases z with r1 | k
  · replace e : (gd (decide (kd h1 v2 = 16)) <| gd (ix 0 (zl h1 v2)) <| some ((0 : Int32), setL h1 v2 ((0 : Int32)).toNatClampNeg r1.toInt64, c1, s1)) = some (r, hz, c9, s9) := e
    obtain ⟨g3, e⟩ := gd_some e
    obtain ⟨g4, e⟩ := gd_some e
    cases e
    refine V_bud0 ?_
    refine V_callV (pc := 4) (bc := 0) (bs := 0) (st := [.int (0 : Int32), .ref v2]) (As := [.int v1]) (a := v0) (r := some (.int r1)) dL_seats_4 ml_L_51 (ci := 10) rfl (of_decide_eq_true g1) rfl rfl (Nat.le_of_ble_eq_true rfl) (d' := 8) (by decide) (c_X11_seats (l := x.2.1) v0 v1 h g2) ?_
    refine V_i2l (pc := 7) dL_seats_7 ?_
    refine V_last (pc := 8) dL_seats_8 (of_decide_eq_true g3) (ix_in g4) ?_
    refine V_goto (pc := 9) (tgt := 15) dL_seats_9 (by decide) ?_
    refine V_iconst (pc := 15) (v := 0) dL_seats_15 (by decide) ?_
    exact V_iret (pc := 16) dL_seats_16 hF
  · replace e : (if k = 3 then some ((1 : Int32), h1, c1, s1) else none) = some (r, hz, c9, s9) := e
    by_cases k0 : k = 3
    · rw [if_pos k0] at e
      cases e
      subst k0
      refine V_bud0 ?_
      refine V_catch (pc := 4) (bc := 0) (bs := 0) (hh := hh_L_seats) (st := [.int (0 : Int32), .ref v2]) (As := [.int v1]) (a := v0) (hpc := 12) (k9 := 3) (len := 1) (lv' := [(0, .ref v0), (1, .int v1), (2, .ref v2)]) hT dL_seats_4 ml_L_51 (ci := 10) rfl (of_decide_eq_true g1) rfl rfl (Nat.le_of_ble_eq_true rfl) (d' := 8) (by decide) (cX_X11_seats (l := x.2.1) hst v0 v1 h g2) hd_L_seats_12 (Or.inr ⟨3, dL_seats_12, rfl, rfl⟩) (by decide) rfl ?_
      refine V_iconst (pc := 13) (v := (1 : Int32)) dL_seats_13 (by decide) ?_
      exact V_iret (pc := 14) dL_seats_14 hF
    · rw [if_neg k0] at e
      cases e
theorem dL_bells_0 : decode cL_bells 0 = .ok (.aload_n 3, 1) := by decide +kernel
theorem dL_bells_1 : decode cL_bells 1 = .ok (.iconst 0, 1) := by decide +kernel
theorem dL_bells_2 : decode cL_bells 2 = .ok (.aload_n 0, 1) := by decide +kernel
theorem dL_bells_3 : decode cL_bells 3 = .ok (.iload_n 1, 1) := by decide +kernel
theorem dL_bells_4 : decode cL_bells 4 = .ok (.iload_n 2, 1) := by decide +kernel
theorem dL_bells_5 : decode cL_bells 5 = .ok (.invokevirtual 54, 3) := by decide +kernel
theorem dL_bells_8 : decode cL_bells 8 = .ok (.i2l, 1) := by decide +kernel
theorem dL_bells_9 : decode cL_bells 9 = .ok (.lastore, 1) := by decide +kernel
theorem dL_bells_10 : decode cL_bells 10 = .ok (.goto 7, 3) := by decide +kernel
theorem dL_bells_13 : decode cL_bells 13 = .ok (.astore 4, 2) := by decide +kernel
theorem dL_bells_15 : decode cL_bells 15 = .ok (.iconst 1, 1) := by decide +kernel
theorem dL_bells_16 : decode cL_bells 16 = .ok (.ireturn, 1) := by decide +kernel
theorem dL_bells_17 : decode cL_bells 17 = .ok (.iconst 0, 1) := by decide +kernel
theorem dL_bells_18 : decode cL_bells 18 = .ok (.ireturn, 1) := by decide +kernel
def F_L_bells (v0 : Nat) (v1 : Int32) (v2 : Int32) (v3 : Nat) (h : Hp) : Option (Int32 × Hp × Nat × Nat) :=
  gd (decide (kd h v0 = 10)) <| ob4 (F_X11_bells v0 v1 v2 h) fun z h1 c1 s1 => sm z (fun r1 => gd (decide (kd h1 v3 = 16)) <| gd (ix 0 (zl h1 v3)) <| some ((0 : Int32), setL h1 v3 ((0 : Int32)).toNatClampNeg r1.toInt64, c1, s1)) (fun k => if k = 0 then some ((1 : Int32), h1, c1, s1) else none)
set_option maxHeartbeats 4000000 in
set_option maxRecDepth 100000 in
theorem c_L_bells {l : Launch} (hst : l.stackTraces = false) (v0 : Nat) (v1 : Int32) (v2 : Int32) (v3 : Nat) (h : Hp) {r : Int32} {hz : Hp} {c9 s9 : Nat} (e : F_L_bells v0 v1 v2 v3 h = some (r, hz, c9, s9)) : CtW l yL_bells M_L_bells (some .int) hh_L_bells 9 [.ref v0, .int v1, .int v2, .ref v3] h c9 s9 (some (.int r)) hz := by
  unfold F_L_bells at e
  obtain ⟨g1, e⟩ := gd_some e
  obtain ⟨z, h1, c1, s1, g2, e⟩ := ob4_some e
  refine CtW_of rfl rfl (fun q => by cases q) (Nat.le_of_ble_eq_true rfl) (fun x hx hT hF => ?_)
  subst hx
  show V M_L_bells x 9 0 [(0, .ref v0), (1, .int v1), (2, .int v2), (3, .ref v3)] [] h c9 s9
  refine V_aload_n (pc := 0) (i := 3) dL_bells_0 rfl rfl ?_
  refine V_iconst (pc := 1) (v := 0) dL_bells_1 (by decide) ?_
  refine V_aload_n (pc := 2) (i := 0) dL_bells_2 rfl rfl ?_
  refine V_iload_n (pc := 3) (i := 1) dL_bells_3 rfl rfl ?_
  refine V_iload_n (pc := 4) (i := 2) dL_bells_4 rfl rfl ?_
  rcases z with r1 | k
  · replace e : (gd (decide (kd h1 v3 = 16)) <| gd (ix 0 (zl h1 v3)) <| some ((0 : Int32), setL h1 v3 ((0 : Int32)).toNatClampNeg r1.toInt64, c1, s1)) = some (r, hz, c9, s9) := e
    obtain ⟨g3, e⟩ := gd_some e
    obtain ⟨g4, e⟩ := gd_some e
    cases e
    refine V_bud0 ?_
    refine V_callV (pc := 5) (bc := 0) (bs := 0) (st := [.int (0 : Int32), .ref v3]) (As := [.int v1, .int v2]) (a := v0) (r := some (.int r1)) dL_bells_5 ml_L_54 (ci := 10) rfl (of_decide_eq_true g1) rfl rfl (Nat.le_of_ble_eq_true rfl) (d' := 8) (by decide) (c_X11_bells (l := x.2.1) v0 v1 v2 h g2) ?_
    refine V_i2l (pc := 8) dL_bells_8 ?_
    refine V_last (pc := 9) dL_bells_9 (of_decide_eq_true g3) (ix_in g4) ?_
    refine V_goto (pc := 10) (tgt := 17) dL_bells_10 (by decide) ?_
    refine V_iconst (pc := 17) (v := 0) dL_bells_17 (by decide) ?_
    exact V_iret (pc := 18) dL_bells_18 hF
  · replace e : (if k = 0 then some ((1 : Int32), h1, c1, s1) else none) = some (r, hz, c9, s9) := e
    by_cases k0 : k = 0
    · rw [if_pos k0] at e
      cases e
      subst k0
      refine V_bud0 ?_
      refine V_catch (pc := 5) (bc := 0) (bs := 0) (hh := hh_L_bells) (st := [.int (0 : Int32), .ref v3]) (As := [.int v1, .int v2]) (a := v0) (hpc := 13) (k9 := 4) (len := 2) (lv' := [(0, .ref v0), (1, .int v1), (2, .int v2), (3, .ref v3)]) hT dL_bells_5 ml_L_54 (ci := 10) rfl (of_decide_eq_true g1) rfl rfl (Nat.le_of_ble_eq_true rfl) (d' := 8) (by decide) (cX_X11_bells (l := x.2.1) hst v0 v1 v2 h g2) hd_L_bells_13 (Or.inl ⟨dL_bells_13, rfl⟩) (by decide) rfl ?_
      refine V_iconst (pc := 15) (v := (1 : Int32)) dL_bells_15 (by decide) ?_
      exact V_iret (pc := 16) dL_bells_16 hF
    · rw [if_neg k0] at e
      cases e
theorem dL_stove_0 : decode cL_stove 0 = .ok (.aload_n 2, 1) := by decide +kernel
theorem dL_stove_1 : decode cL_stove 1 = .ok (.iconst 0, 1) := by decide +kernel
theorem dL_stove_2 : decode cL_stove 2 = .ok (.aload_n 0, 1) := by decide +kernel
theorem dL_stove_3 : decode cL_stove 3 = .ok (.iload_n 1, 1) := by decide +kernel
theorem dL_stove_4 : decode cL_stove 4 = .ok (.invokevirtual 57, 3) := by decide +kernel
theorem dL_stove_7 : decode cL_stove 7 = .ok (.i2l, 1) := by decide +kernel
theorem dL_stove_8 : decode cL_stove 8 = .ok (.lastore, 1) := by decide +kernel
theorem dL_stove_9 : decode cL_stove 9 = .ok (.goto 6, 3) := by decide +kernel
theorem dL_stove_12 : decode cL_stove 12 = .ok (.astore_n 3, 1) := by decide +kernel
theorem dL_stove_13 : decode cL_stove 13 = .ok (.iconst 1, 1) := by decide +kernel
theorem dL_stove_14 : decode cL_stove 14 = .ok (.ireturn, 1) := by decide +kernel
theorem dL_stove_15 : decode cL_stove 15 = .ok (.iconst 0, 1) := by decide +kernel
theorem dL_stove_16 : decode cL_stove 16 = .ok (.ireturn, 1) := by decide +kernel
def F_L_stove (v0 : Nat) (v1 : Int32) (v2 : Nat) (h : Hp) : Option (Int32 × Hp × Nat × Nat) :=
  gd (decide (kd h v0 = 10)) <| ob4 (F_X11_stove v0 v1 h) fun z h1 c1 s1 => sm z (fun r1 => gd (decide (kd h1 v2 = 16)) <| gd (ix 0 (zl h1 v2)) <| some ((0 : Int32), setL h1 v2 ((0 : Int32)).toNatClampNeg r1.toInt64, c1, s1)) (fun k => if k = 2 then some ((1 : Int32), h1, c1, s1) else none)
set_option maxHeartbeats 4000000 in
set_option maxRecDepth 100000 in
theorem c_L_stove {l : Launch} (hst : l.stackTraces = false) (v0 : Nat) (v1 : Int32) (v2 : Nat) (h : Hp) {r : Int32} {hz : Hp} {c9 s9 : Nat} (e : F_L_stove v0 v1 v2 h = some (r, hz, c9, s9)) : CtW l yL_stove M_L_stove (some .int) hh_L_stove 9 [.ref v0, .int v1, .ref v2] h c9 s9 (some (.int r)) hz := by
  unfold F_L_stove at e
  obtain ⟨g1, e⟩ := gd_some e
  obtain ⟨z, h1, c1, s1, g2, e⟩ := ob4_some e
  refine CtW_of rfl rfl (fun q => by cases q) (Nat.le_of_ble_eq_true rfl) (fun x hx hT hF => ?_)
  subst hx
  show V M_L_stove x 9 0 [(0, .ref v0), (1, .int v1), (2, .ref v2)] [] h c9 s9
  refine V_aload_n (pc := 0) (i := 2) dL_stove_0 rfl rfl ?_
  refine V_iconst (pc := 1) (v := 0) dL_stove_1 (by decide) ?_
  refine V_aload_n (pc := 2) (i := 0) dL_stove_2 rfl rfl ?_
  refine V_iload_n (pc := 3) (i := 1) dL_stove_3 rfl rfl ?_
  rcases z with r1 | k
  · replace e : (gd (decide (kd h1 v2 = 16)) <| gd (ix 0 (zl h1 v2)) <| some ((0 : Int32), setL h1 v2 ((0 : Int32)).toNatClampNeg r1.toInt64, c1, s1)) = some (r, hz, c9, s9) := e
    obtain ⟨g3, e⟩ := gd_some e
    obtain ⟨g4, e⟩ := gd_some e
    cases e
    refine V_bud0 ?_
    refine V_callV (pc := 4) (bc := 0) (bs := 0) (st := [.int (0 : Int32), .ref v2]) (As := [.int v1]) (a := v0) (r := some (.int r1)) dL_stove_4 ml_L_57 (ci := 10) rfl (of_decide_eq_true g1) rfl rfl (Nat.le_of_ble_eq_true rfl) (d' := 8) (by decide) (c_X11_stove (l := x.2.1) v0 v1 h g2) ?_
    refine V_i2l (pc := 7) dL_stove_7 ?_
    refine V_last (pc := 8) dL_stove_8 (of_decide_eq_true g3) (ix_in g4) ?_
    refine V_goto (pc := 9) (tgt := 15) dL_stove_9 (by decide) ?_
    refine V_iconst (pc := 15) (v := 0) dL_stove_15 (by decide) ?_
    exact V_iret (pc := 16) dL_stove_16 hF
  · replace e : (if k = 2 then some ((1 : Int32), h1, c1, s1) else none) = some (r, hz, c9, s9) := e
    by_cases k0 : k = 2
    · rw [if_pos k0] at e
      cases e
      subst k0
      refine V_bud0 ?_
      refine V_catch (pc := 4) (bc := 0) (bs := 0) (hh := hh_L_stove) (st := [.int (0 : Int32), .ref v2]) (As := [.int v1]) (a := v0) (hpc := 12) (k9 := 3) (len := 1) (lv' := [(0, .ref v0), (1, .int v1), (2, .ref v2)]) hT dL_stove_4 ml_L_57 (ci := 10) rfl (of_decide_eq_true g1) rfl rfl (Nat.le_of_ble_eq_true rfl) (d' := 8) (by decide) (cX_X11_stove (l := x.2.1) hst v0 v1 h g2) hd_L_stove_12 (Or.inr ⟨3, dL_stove_12, rfl, rfl⟩) (by decide) rfl ?_
      refine V_iconst (pc := 13) (v := (1 : Int32)) dL_stove_13 (by decide) ?_
      exact V_iret (pc := 14) dL_stove_14 hF
    · rw [if_neg k0] at e
      cases e
theorem dL_wing_0 : decode cL_wing 0 = .ok (.aload_n 2, 1) := by decide +kernel
theorem dL_wing_1 : decode cL_wing 1 = .ok (.iconst 0, 1) := by decide +kernel
theorem dL_wing_2 : decode cL_wing 2 = .ok (.aload_n 0, 1) := by decide +kernel
theorem dL_wing_3 : decode cL_wing 3 = .ok (.iload_n 1, 1) := by decide +kernel
theorem dL_wing_4 : decode cL_wing 4 = .ok (.invokevirtual 60, 3) := by decide +kernel
theorem dL_wing_7 : decode cL_wing 7 = .ok (.i2l, 1) := by decide +kernel
theorem dL_wing_8 : decode cL_wing 8 = .ok (.lastore, 1) := by decide +kernel
theorem dL_wing_9 : decode cL_wing 9 = .ok (.goto 6, 3) := by decide +kernel
theorem dL_wing_12 : decode cL_wing 12 = .ok (.astore_n 3, 1) := by decide +kernel
theorem dL_wing_13 : decode cL_wing 13 = .ok (.iconst 1, 1) := by decide +kernel
theorem dL_wing_14 : decode cL_wing 14 = .ok (.ireturn, 1) := by decide +kernel
theorem dL_wing_15 : decode cL_wing 15 = .ok (.iconst 0, 1) := by decide +kernel
theorem dL_wing_16 : decode cL_wing 16 = .ok (.ireturn, 1) := by decide +kernel
def F_L_wing (v0 : Nat) (v1 : Int32) (v2 : Nat) (h : Hp) : Option (Int32 × Hp × Nat × Nat) :=
  gd (decide (kd h v0 = 10)) <| ob4 (F_X11_wing v0 v1 h) fun z h1 c1 s1 => sm z (fun r1 => gd (decide (kd h1 v2 = 16)) <| gd (ix 0 (zl h1 v2)) <| some ((0 : Int32), setL h1 v2 ((0 : Int32)).toNatClampNeg r1.toInt64, c1, s1)) (fun k => if k = 0 then some ((1 : Int32), h1, c1, s1) else none)
set_option maxHeartbeats 4000000 in
set_option maxRecDepth 100000 in
theorem c_L_wing {l : Launch} (hst : l.stackTraces = false) (v0 : Nat) (v1 : Int32) (v2 : Nat) (h : Hp) {r : Int32} {hz : Hp} {c9 s9 : Nat} (e : F_L_wing v0 v1 v2 h = some (r, hz, c9, s9)) : CtW l yL_wing M_L_wing (some .int) hh_L_wing 9 [.ref v0, .int v1, .ref v2] h c9 s9 (some (.int r)) hz := by
  unfold F_L_wing at e
  obtain ⟨g1, e⟩ := gd_some e
  obtain ⟨z, h1, c1, s1, g2, e⟩ := ob4_some e
  refine CtW_of rfl rfl (fun q => by cases q) (Nat.le_of_ble_eq_true rfl) (fun x hx hT hF => ?_)
  subst hx
  show V M_L_wing x 9 0 [(0, .ref v0), (1, .int v1), (2, .ref v2)] [] h c9 s9
  refine V_aload_n (pc := 0) (i := 2) dL_wing_0 rfl rfl ?_
  refine V_iconst (pc := 1) (v := 0) dL_wing_1 (by decide) ?_
  refine V_aload_n (pc := 2) (i := 0) dL_wing_2 rfl rfl ?_
  refine V_iload_n (pc := 3) (i := 1) dL_wing_3 rfl rfl ?_
  rcases z with r1 | k
  · replace e : (gd (decide (kd h1 v2 = 16)) <| gd (ix 0 (zl h1 v2)) <| some ((0 : Int32), setL h1 v2 ((0 : Int32)).toNatClampNeg r1.toInt64, c1, s1)) = some (r, hz, c9, s9) := e
    obtain ⟨g3, e⟩ := gd_some e
    obtain ⟨g4, e⟩ := gd_some e
    cases e
    refine V_bud0 ?_
    refine V_callV (pc := 4) (bc := 0) (bs := 0) (st := [.int (0 : Int32), .ref v2]) (As := [.int v1]) (a := v0) (r := some (.int r1)) dL_wing_4 ml_L_60 (ci := 10) rfl (of_decide_eq_true g1) rfl rfl (Nat.le_of_ble_eq_true rfl) (d' := 8) (by decide) (c_X11_wing (l := x.2.1) v0 v1 h g2) ?_
    refine V_i2l (pc := 7) dL_wing_7 ?_
    refine V_last (pc := 8) dL_wing_8 (of_decide_eq_true g3) (ix_in g4) ?_
    refine V_goto (pc := 9) (tgt := 15) dL_wing_9 (by decide) ?_
    refine V_iconst (pc := 15) (v := 0) dL_wing_15 (by decide) ?_
    exact V_iret (pc := 16) dL_wing_16 hF
  · replace e : (if k = 0 then some ((1 : Int32), h1, c1, s1) else none) = some (r, hz, c9, s9) := e
    by_cases k0 : k = 0
    · rw [if_pos k0] at e
      cases e
      subst k0
      refine V_bud0 ?_
      refine V_catch (pc := 4) (bc := 0) (bs := 0) (hh := hh_L_wing) (st := [.int (0 : Int32), .ref v2]) (As := [.int v1]) (a := v0) (hpc := 12) (k9 := 3) (len := 1) (lv' := [(0, .ref v0), (1, .int v1), (2, .ref v2)]) hT dL_wing_4 ml_L_60 (ci := 10) rfl (of_decide_eq_true g1) rfl rfl (Nat.le_of_ble_eq_true rfl) (d' := 8) (by decide) (cX_X11_wing (l := x.2.1) hst v0 v1 h g2) hd_L_wing_12 (Or.inr ⟨3, dL_wing_12, rfl, rfl⟩) (by decide) rfl ?_
      refine V_iconst (pc := 13) (v := (1 : Int32)) dL_wing_13 (by decide) ?_
      exact V_iret (pc := 14) dL_wing_14 hF
    · rw [if_neg k0] at e
      cases e
theorem dL_read_0 : decode cL_read 0 = .ok (.aload_n 3, 1) := by decide +kernel
theorem dL_read_1 : decode cL_read 1 = .ok (.iconst 0, 1) := by decide +kernel
theorem dL_read_2 : decode cL_read 2 = .ok (.aload_n 0, 1) := by decide +kernel
theorem dL_read_3 : decode cL_read 3 = .ok (.iload_n 1, 1) := by decide +kernel
theorem dL_read_4 : decode cL_read 4 = .ok (.iload_n 2, 1) := by decide +kernel
theorem dL_read_5 : decode cL_read 5 = .ok (.invokevirtual 63, 3) := by decide +kernel
theorem dL_read_8 : decode cL_read 8 = .ok (.i2l, 1) := by decide +kernel
theorem dL_read_9 : decode cL_read 9 = .ok (.lastore, 1) := by decide +kernel
theorem dL_read_10 : decode cL_read 10 = .ok (.goto 7, 3) := by decide +kernel
theorem dL_read_13 : decode cL_read 13 = .ok (.astore 4, 2) := by decide +kernel
theorem dL_read_15 : decode cL_read 15 = .ok (.iconst 1, 1) := by decide +kernel
theorem dL_read_16 : decode cL_read 16 = .ok (.ireturn, 1) := by decide +kernel
theorem dL_read_17 : decode cL_read 17 = .ok (.iconst 0, 1) := by decide +kernel
theorem dL_read_18 : decode cL_read 18 = .ok (.ireturn, 1) := by decide +kernel
def F_L_read (v0 : Nat) (v1 : Int32) (v2 : Int32) (v3 : Nat) (h : Hp) : Option (Int32 × Hp × Nat × Nat) :=
  gd (decide (kd h v0 = 10)) <| ob4 (F_X11_read v0 v1 v2 h) fun z h1 c1 s1 => sm z (fun r1 => gd (decide (kd h1 v3 = 16)) <| gd (ix 0 (zl h1 v3)) <| some ((0 : Int32), setL h1 v3 ((0 : Int32)).toNatClampNeg r1.toInt64, c1, s1)) (fun k => if k = 1 then some ((1 : Int32), h1, c1, s1) else none)
set_option maxHeartbeats 4000000 in
set_option maxRecDepth 100000 in
theorem c_L_read {l : Launch} (hst : l.stackTraces = false) (v0 : Nat) (v1 : Int32) (v2 : Int32) (v3 : Nat) (h : Hp) {r : Int32} {hz : Hp} {c9 s9 : Nat} (e : F_L_read v0 v1 v2 v3 h = some (r, hz, c9, s9)) : CtW l yL_read M_L_read (some .int) hh_L_read 9 [.ref v0, .int v1, .int v2, .ref v3] h c9 s9 (some (.int r)) hz := by
  unfold F_L_read at e
  obtain ⟨g1, e⟩ := gd_some e
  obtain ⟨z, h1, c1, s1, g2, e⟩ := ob4_some e
  refine CtW_of rfl rfl (fun q => by cases q) (Nat.le_of_ble_eq_true rfl) (fun x hx hT hF => ?_)
  subst hx
  show V M_L_read x 9 0 [(0, .ref v0), (1, .int v1), (2, .int v2), (3, .ref v3)] [] h c9 s9
  refine V_aload_n (pc := 0) (i := 3) dL_read_0 rfl rfl ?_
  refine V_iconst (pc := 1) (v := 0) dL_read_1 (by decide) ?_
  refine V_aload_n (pc := 2) (i := 0) dL_read_2 rfl rfl ?_
  refine V_iload_n (pc := 3) (i := 1) dL_read_3 rfl rfl ?_
  refine V_iload_n (pc := 4) (i := 2) dL_read_4 rfl rfl ?_
  rcases z with r1 | k
  · replace e : (gd (decide (kd h1 v3 = 16)) <| gd (ix 0 (zl h1 v3)) <| some ((0 : Int32), setL h1 v3 ((0 : Int32)).toNatClampNeg r1.toInt64, c1, s1)) = some (r, hz, c9, s9) := e
    obtain ⟨g3, e⟩ := gd_some e
    obtain ⟨g4, e⟩ := gd_some e
    cases e
    refine V_bud0 ?_
    refine V_callV (pc := 5) (bc := 0) (bs := 0) (st := [.int (0 : Int32), .ref v3]) (As := [.int v1, .int v2]) (a := v0) (r := some (.int r1)) dL_read_5 ml_L_63 (ci := 10) rfl (of_decide_eq_true g1) rfl rfl (Nat.le_of_ble_eq_true rfl) (d' := 8) (by decide) (c_X11_read (l := x.2.1) v0 v1 v2 h g2) ?_
    refine V_i2l (pc := 8) dL_read_8 ?_
    refine V_last (pc := 9) dL_read_9 (of_decide_eq_true g3) (ix_in g4) ?_
    refine V_goto (pc := 10) (tgt := 17) dL_read_10 (by decide) ?_
    refine V_iconst (pc := 17) (v := 0) dL_read_17 (by decide) ?_
    exact V_iret (pc := 18) dL_read_18 hF
  · replace e : (if k = 1 then some ((1 : Int32), h1, c1, s1) else none) = some (r, hz, c9, s9) := e
    by_cases k0 : k = 1
    · rw [if_pos k0] at e
      cases e
      subst k0
      refine V_bud0 ?_
      refine V_catch (pc := 5) (bc := 0) (bs := 0) (hh := hh_L_read) (st := [.int (0 : Int32), .ref v3]) (As := [.int v1, .int v2]) (a := v0) (hpc := 13) (k9 := 4) (len := 2) (lv' := [(0, .ref v0), (1, .int v1), (2, .int v2), (3, .ref v3)]) hT dL_read_5 ml_L_63 (ci := 10) rfl (of_decide_eq_true g1) rfl rfl (Nat.le_of_ble_eq_true rfl) (d' := 8) (by decide) (cX_X11_read (l := x.2.1) hst v0 v1 v2 h g2) hd_L_read_13 (Or.inl ⟨dL_read_13, rfl⟩) (by decide) rfl ?_
      refine V_iconst (pc := 15) (v := (1 : Int32)) dL_read_15 (by decide) ?_
      exact V_iret (pc := 16) dL_read_16 hF
    · rw [if_neg k0] at e
      cases e
theorem dL_fits_0 : decode cL_fits 0 = .ok (.aload_n 2, 1) := by decide +kernel
theorem dL_fits_1 : decode cL_fits 1 = .ok (.iconst 0, 1) := by decide +kernel
theorem dL_fits_2 : decode cL_fits 2 = .ok (.aload_n 0, 1) := by decide +kernel
theorem dL_fits_3 : decode cL_fits 3 = .ok (.iload_n 1, 1) := by decide +kernel
theorem dL_fits_4 : decode cL_fits 4 = .ok (.invokevirtual 66, 3) := by decide +kernel
theorem dL_fits_7 : decode cL_fits 7 = .ok (.i2l, 1) := by decide +kernel
theorem dL_fits_8 : decode cL_fits 8 = .ok (.lastore, 1) := by decide +kernel
theorem dL_fits_9 : decode cL_fits 9 = .ok (.goto 6, 3) := by decide +kernel
theorem dL_fits_12 : decode cL_fits 12 = .ok (.astore_n 3, 1) := by decide +kernel
theorem dL_fits_13 : decode cL_fits 13 = .ok (.iconst 1, 1) := by decide +kernel
theorem dL_fits_14 : decode cL_fits 14 = .ok (.ireturn, 1) := by decide +kernel
theorem dL_fits_15 : decode cL_fits 15 = .ok (.iconst 0, 1) := by decide +kernel
theorem dL_fits_16 : decode cL_fits 16 = .ok (.ireturn, 1) := by decide +kernel
def F_L_fits (v0 : Nat) (v1 : Int32) (v2 : Nat) (h : Hp) : Option (Int32 × Hp × Nat × Nat) :=
  gd (decide (kd h v0 = 10)) <| ob4 (F_X11_fits v0 v1 h) fun z h1 c1 s1 => sm z (fun r1 => gd (decide (kd h1 v2 = 16)) <| gd (ix 0 (zl h1 v2)) <| some ((0 : Int32), setL h1 v2 ((0 : Int32)).toNatClampNeg r1.toInt64, c1, s1)) (fun k => if k = 2 then some ((1 : Int32), h1, c1, s1) else none)
set_option maxHeartbeats 4000000 in
set_option maxRecDepth 100000 in
theorem c_L_fits {l : Launch} (hst : l.stackTraces = false) (v0 : Nat) (v1 : Int32) (v2 : Nat) (h : Hp) {r : Int32} {hz : Hp} {c9 s9 : Nat} (e : F_L_fits v0 v1 v2 h = some (r, hz, c9, s9)) : CtW l yL_fits M_L_fits (some .int) hh_L_fits 9 [.ref v0, .int v1, .ref v2] h c9 s9 (some (.int r)) hz := by
  unfold F_L_fits at e
  obtain ⟨g1, e⟩ := gd_some e
  obtain ⟨z, h1, c1, s1, g2, e⟩ := ob4_some e
  refine CtW_of rfl rfl (fun q => by cases q) (Nat.le_of_ble_eq_true rfl) (fun x hx hT hF => ?_)
  subst hx
  show V M_L_fits x 9 0 [(0, .ref v0), (1, .int v1), (2, .ref v2)] [] h c9 s9
  refine V_aload_n (pc := 0) (i := 2) dL_fits_0 rfl rfl ?_
  refine V_iconst (pc := 1) (v := 0) dL_fits_1 (by decide) ?_
  refine V_aload_n (pc := 2) (i := 0) dL_fits_2 rfl rfl ?_
  refine V_iload_n (pc := 3) (i := 1) dL_fits_3 rfl rfl ?_
  rcases z with r1 | k
  · replace e : (gd (decide (kd h1 v2 = 16)) <| gd (ix 0 (zl h1 v2)) <| some ((0 : Int32), setL h1 v2 ((0 : Int32)).toNatClampNeg r1.toInt64, c1, s1)) = some (r, hz, c9, s9) := e
    obtain ⟨g3, e⟩ := gd_some e
    obtain ⟨g4, e⟩ := gd_some e
    cases e
    refine V_bud0 ?_
    refine V_callV (pc := 4) (bc := 0) (bs := 0) (st := [.int (0 : Int32), .ref v2]) (As := [.int v1]) (a := v0) (r := some (.int r1)) dL_fits_4 ml_L_66 (ci := 10) rfl (of_decide_eq_true g1) rfl rfl (Nat.le_of_ble_eq_true rfl) (d' := 8) (by decide) (c_X11_fits (l := x.2.1) v0 v1 h g2) ?_
    refine V_i2l (pc := 7) dL_fits_7 ?_
    refine V_last (pc := 8) dL_fits_8 (of_decide_eq_true g3) (ix_in g4) ?_
    refine V_goto (pc := 9) (tgt := 15) dL_fits_9 (by decide) ?_
    refine V_iconst (pc := 15) (v := 0) dL_fits_15 (by decide) ?_
    exact V_iret (pc := 16) dL_fits_16 hF
  · replace e : (if k = 2 then some ((1 : Int32), h1, c1, s1) else none) = some (r, hz, c9, s9) := e
    by_cases k0 : k = 2
    · rw [if_pos k0] at e
      cases e
      subst k0
      refine V_bud0 ?_
      refine V_catch (pc := 4) (bc := 0) (bs := 0) (hh := hh_L_fits) (st := [.int (0 : Int32), .ref v2]) (As := [.int v1]) (a := v0) (hpc := 12) (k9 := 3) (len := 1) (lv' := [(0, .ref v0), (1, .int v1), (2, .ref v2)]) hT dL_fits_4 ml_L_66 (ci := 10) rfl (of_decide_eq_true g1) rfl rfl (Nat.le_of_ble_eq_true rfl) (d' := 8) (by decide) (cX_X11_fits (l := x.2.1) hst v0 v1 h g2) hd_L_fits_12 (Or.inr ⟨3, dL_fits_12, rfl, rfl⟩) (by decide) rfl ?_
      refine V_iconst (pc := 13) (v := (1 : Int32)) dL_fits_13 (by decide) ?_
      exact V_iret (pc := 14) dL_fits_14 hF
    · rw [if_neg k0] at e
      cases e
theorem dL_meeting_0 : decode cL_meeting 0 = .ok (.aload 4, 2) := by decide +kernel
theorem dL_meeting_2 : decode cL_meeting 2 = .ok (.iconst 0, 1) := by decide +kernel
theorem dL_meeting_3 : decode cL_meeting 3 = .ok (.aload_n 0, 1) := by decide +kernel
theorem dL_meeting_4 : decode cL_meeting 4 = .ok (.iload_n 1, 1) := by decide +kernel
theorem dL_meeting_5 : decode cL_meeting 5 = .ok (.iload_n 2, 1) := by decide +kernel
theorem dL_meeting_6 : decode cL_meeting 6 = .ok (.iload_n 3, 1) := by decide +kernel
theorem dL_meeting_7 : decode cL_meeting 7 = .ok (.invokevirtual 69, 3) := by decide +kernel
theorem dL_meeting_10 : decode cL_meeting 10 = .ok (.i2l, 1) := by decide +kernel
theorem dL_meeting_11 : decode cL_meeting 11 = .ok (.lastore, 1) := by decide +kernel
theorem dL_meeting_12 : decode cL_meeting 12 = .ok (.goto 7, 3) := by decide +kernel
theorem dL_meeting_15 : decode cL_meeting 15 = .ok (.astore 5, 2) := by decide +kernel
theorem dL_meeting_17 : decode cL_meeting 17 = .ok (.iconst 1, 1) := by decide +kernel
theorem dL_meeting_18 : decode cL_meeting 18 = .ok (.ireturn, 1) := by decide +kernel
theorem dL_meeting_19 : decode cL_meeting 19 = .ok (.iconst 0, 1) := by decide +kernel
theorem dL_meeting_20 : decode cL_meeting 20 = .ok (.ireturn, 1) := by decide +kernel
def F_L_meeting (v0 : Nat) (v1 : Int32) (v2 : Int32) (v3 : Int32) (v4 : Nat) (h : Hp) : Option (Int32 × Hp × Nat × Nat) :=
  gd (decide (kd h v0 = 10)) <| ob4 (F_X11_meeting v0 v1 v2 v3 h) fun z h1 c1 s1 => sm z (fun r1 => gd (decide (kd h1 v4 = 16)) <| gd (ix 0 (zl h1 v4)) <| some ((0 : Int32), setL h1 v4 ((0 : Int32)).toNatClampNeg r1.toInt64, c1, s1)) (fun k => if k = 2 then some ((1 : Int32), h1, c1, s1) else none)
set_option maxHeartbeats 4000000 in
set_option maxRecDepth 100000 in
theorem c_L_meeting {l : Launch} (hst : l.stackTraces = false) (v0 : Nat) (v1 : Int32) (v2 : Int32) (v3 : Int32) (v4 : Nat) (h : Hp) {r : Int32} {hz : Hp} {c9 s9 : Nat} (e : F_L_meeting v0 v1 v2 v3 v4 h = some (r, hz, c9, s9)) : CtW l yL_meeting M_L_meeting (some .int) hh_L_meeting 9 [.ref v0, .int v1, .int v2, .int v3, .ref v4] h c9 s9 (some (.int r)) hz := by
  unfold F_L_meeting at e
  obtain ⟨g1, e⟩ := gd_some e
  obtain ⟨z, h1, c1, s1, g2, e⟩ := ob4_some e
  refine CtW_of rfl rfl (fun q => by cases q) (Nat.le_of_ble_eq_true rfl) (fun x hx hT hF => ?_)
  subst hx
  show V M_L_meeting x 9 0 [(0, .ref v0), (1, .int v1), (2, .int v2), (3, .int v3), (4, .ref v4)] [] h c9 s9
  refine V_aload (pc := 0) (i := 4) dL_meeting_0 rfl ?_
  refine V_iconst (pc := 2) (v := 0) dL_meeting_2 (by decide) ?_
  refine V_aload_n (pc := 3) (i := 0) dL_meeting_3 rfl rfl ?_
  refine V_iload_n (pc := 4) (i := 1) dL_meeting_4 rfl rfl ?_
  refine V_iload_n (pc := 5) (i := 2) dL_meeting_5 rfl rfl ?_
  refine V_iload_n (pc := 6) (i := 3) dL_meeting_6 rfl rfl ?_
  rcases z with r1 | k
  · replace e : (gd (decide (kd h1 v4 = 16)) <| gd (ix 0 (zl h1 v4)) <| some ((0 : Int32), setL h1 v4 ((0 : Int32)).toNatClampNeg r1.toInt64, c1, s1)) = some (r, hz, c9, s9) := e
    obtain ⟨g3, e⟩ := gd_some e
    obtain ⟨g4, e⟩ := gd_some e
    cases e
    refine V_bud0 ?_
    refine V_callV (pc := 7) (bc := 0) (bs := 0) (st := [.int (0 : Int32), .ref v4]) (As := [.int v1, .int v2, .int v3]) (a := v0) (r := some (.int r1)) dL_meeting_7 ml_L_69 (ci := 10) rfl (of_decide_eq_true g1) rfl rfl (Nat.le_of_ble_eq_true rfl) (d' := 8) (by decide) (c_X11_meeting (l := x.2.1) v0 v1 v2 v3 h g2) ?_
    refine V_i2l (pc := 10) dL_meeting_10 ?_
    refine V_last (pc := 11) dL_meeting_11 (of_decide_eq_true g3) (ix_in g4) ?_
    refine V_goto (pc := 12) (tgt := 19) dL_meeting_12 (by decide) ?_
    refine V_iconst (pc := 19) (v := 0) dL_meeting_19 (by decide) ?_
    exact V_iret (pc := 20) dL_meeting_20 hF
  · replace e : (if k = 2 then some ((1 : Int32), h1, c1, s1) else none) = some (r, hz, c9, s9) := e
    by_cases k0 : k = 2
    · rw [if_pos k0] at e
      cases e
      subst k0
      refine V_bud0 ?_
      refine V_catch (pc := 7) (bc := 0) (bs := 0) (hh := hh_L_meeting) (st := [.int (0 : Int32), .ref v4]) (As := [.int v1, .int v2, .int v3]) (a := v0) (hpc := 15) (k9 := 5) (len := 2) (lv' := [(0, .ref v0), (1, .int v1), (2, .int v2), (3, .int v3), (4, .ref v4)]) hT dL_meeting_7 ml_L_69 (ci := 10) rfl (of_decide_eq_true g1) rfl rfl (Nat.le_of_ble_eq_true rfl) (d' := 8) (by decide) (cX_X11_meeting (l := x.2.1) hst v0 v1 v2 v3 h g2) hd_L_meeting_15 (Or.inl ⟨dL_meeting_15, rfl⟩) (by decide) rfl ?_
      refine V_iconst (pc := 17) (v := (1 : Int32)) dL_meeting_17 (by decide) ?_
      exact V_iret (pc := 18) dL_meeting_18 hF
    · rw [if_neg k0] at e
      cases e
theorem dL_weighed_0 : decode cL_weighed 0 = .ok (.aload_n 3, 1) := by decide +kernel
theorem dL_weighed_1 : decode cL_weighed 1 = .ok (.iconst 0, 1) := by decide +kernel
theorem dL_weighed_2 : decode cL_weighed 2 = .ok (.aload_n 0, 1) := by decide +kernel
theorem dL_weighed_3 : decode cL_weighed 3 = .ok (.iload_n 1, 1) := by decide +kernel
theorem dL_weighed_4 : decode cL_weighed 4 = .ok (.iload_n 2, 1) := by decide +kernel
theorem dL_weighed_5 : decode cL_weighed 5 = .ok (.invokevirtual 73, 3) := by decide +kernel
theorem dL_weighed_8 : decode cL_weighed 8 = .ok (.i2l, 1) := by decide +kernel
theorem dL_weighed_9 : decode cL_weighed 9 = .ok (.lastore, 1) := by decide +kernel
theorem dL_weighed_10 : decode cL_weighed 10 = .ok (.goto 7, 3) := by decide +kernel
theorem dL_weighed_13 : decode cL_weighed 13 = .ok (.astore 4, 2) := by decide +kernel
theorem dL_weighed_15 : decode cL_weighed 15 = .ok (.iconst 1, 1) := by decide +kernel
theorem dL_weighed_16 : decode cL_weighed 16 = .ok (.ireturn, 1) := by decide +kernel
theorem dL_weighed_17 : decode cL_weighed 17 = .ok (.iconst 0, 1) := by decide +kernel
theorem dL_weighed_18 : decode cL_weighed 18 = .ok (.ireturn, 1) := by decide +kernel
def F_L_weighed (v0 : Nat) (v1 : Int32) (v2 : Int32) (v3 : Nat) (h : Hp) : Option (Int32 × Hp × Nat × Nat) :=
  gd (decide (kd h v0 = 10)) <| ob4 (F_X11_weighed v0 v1 v2 h) fun z h1 c1 s1 => sm z (fun r1 => gd (decide (kd h1 v3 = 16)) <| gd (ix 0 (zl h1 v3)) <| some ((0 : Int32), setL h1 v3 ((0 : Int32)).toNatClampNeg r1.toInt64, c1, s1)) (fun k => if k = 2 then some ((1 : Int32), h1, c1, s1) else none)
set_option maxHeartbeats 4000000 in
set_option maxRecDepth 100000 in
theorem c_L_weighed {l : Launch} (hst : l.stackTraces = false) (v0 : Nat) (v1 : Int32) (v2 : Int32) (v3 : Nat) (h : Hp) {r : Int32} {hz : Hp} {c9 s9 : Nat} (e : F_L_weighed v0 v1 v2 v3 h = some (r, hz, c9, s9)) : CtW l yL_weighed M_L_weighed (some .int) hh_L_weighed 9 [.ref v0, .int v1, .int v2, .ref v3] h c9 s9 (some (.int r)) hz := by
  unfold F_L_weighed at e
  obtain ⟨g1, e⟩ := gd_some e
  obtain ⟨z, h1, c1, s1, g2, e⟩ := ob4_some e
  refine CtW_of rfl rfl (fun q => by cases q) (Nat.le_of_ble_eq_true rfl) (fun x hx hT hF => ?_)
  subst hx
  show V M_L_weighed x 9 0 [(0, .ref v0), (1, .int v1), (2, .int v2), (3, .ref v3)] [] h c9 s9
  refine V_aload_n (pc := 0) (i := 3) dL_weighed_0 rfl rfl ?_
  refine V_iconst (pc := 1) (v := 0) dL_weighed_1 (by decide) ?_
  refine V_aload_n (pc := 2) (i := 0) dL_weighed_2 rfl rfl ?_
  refine V_iload_n (pc := 3) (i := 1) dL_weighed_3 rfl rfl ?_
  refine V_iload_n (pc := 4) (i := 2) dL_weighed_4 rfl rfl ?_
  rcases z with r1 | k
  · replace e : (gd (decide (kd h1 v3 = 16)) <| gd (ix 0 (zl h1 v3)) <| some ((0 : Int32), setL h1 v3 ((0 : Int32)).toNatClampNeg r1.toInt64, c1, s1)) = some (r, hz, c9, s9) := e
    obtain ⟨g3, e⟩ := gd_some e
    obtain ⟨g4, e⟩ := gd_some e
    cases e
    refine V_bud0 ?_
    refine V_callV (pc := 5) (bc := 0) (bs := 0) (st := [.int (0 : Int32), .ref v3]) (As := [.int v1, .int v2]) (a := v0) (r := some (.int r1)) dL_weighed_5 ml_L_73 (ci := 10) rfl (of_decide_eq_true g1) rfl rfl (Nat.le_of_ble_eq_true rfl) (d' := 8) (by decide) (c_X11_weighed (l := x.2.1) v0 v1 v2 h g2) ?_
    refine V_i2l (pc := 8) dL_weighed_8 ?_
    refine V_last (pc := 9) dL_weighed_9 (of_decide_eq_true g3) (ix_in g4) ?_
    refine V_goto (pc := 10) (tgt := 17) dL_weighed_10 (by decide) ?_
    refine V_iconst (pc := 17) (v := 0) dL_weighed_17 (by decide) ?_
    exact V_iret (pc := 18) dL_weighed_18 hF
  · replace e : (if k = 2 then some ((1 : Int32), h1, c1, s1) else none) = some (r, hz, c9, s9) := e
    by_cases k0 : k = 2
    · rw [if_pos k0] at e
      cases e
      subst k0
      refine V_bud0 ?_
      refine V_catch (pc := 5) (bc := 0) (bs := 0) (hh := hh_L_weighed) (st := [.int (0 : Int32), .ref v3]) (As := [.int v1, .int v2]) (a := v0) (hpc := 13) (k9 := 4) (len := 2) (lv' := [(0, .ref v0), (1, .int v1), (2, .int v2), (3, .ref v3)]) hT dL_weighed_5 ml_L_73 (ci := 10) rfl (of_decide_eq_true g1) rfl rfl (Nat.le_of_ble_eq_true rfl) (d' := 8) (by decide) (cX_X11_weighed (l := x.2.1) hst v0 v1 v2 h g2) hd_L_weighed_13 (Or.inl ⟨dL_weighed_13, rfl⟩) (by decide) rfl ?_
      refine V_iconst (pc := 15) (v := (1 : Int32)) dL_weighed_15 (by decide) ?_
      exact V_iret (pc := 16) dL_weighed_16 hF
    · rw [if_neg k0] at e
      cases e
theorem dL_weigh_0 : decode cL_weigh 0 = .ok (.aload_n 0, 1) := by decide +kernel
theorem dL_weigh_1 : decode cL_weigh 1 = .ok (.iload_n 1, 1) := by decide +kernel
theorem dL_weigh_2 : decode cL_weigh 2 = .ok (.iload_n 2, 1) := by decide +kernel
theorem dL_weigh_3 : decode cL_weigh 3 = .ok (.invokevirtual 76, 3) := by decide +kernel
theorem dL_weigh_6 : decode cL_weigh 6 = .ok (.goto 9, 3) := by decide +kernel
theorem dL_weigh_9 : decode cL_weigh 9 = .ok (.astore_n 3, 1) := by decide +kernel
theorem dL_weigh_10 : decode cL_weigh 10 = .ok (.iconst 1, 1) := by decide +kernel
theorem dL_weigh_11 : decode cL_weigh 11 = .ok (.ireturn, 1) := by decide +kernel
theorem dL_weigh_12 : decode cL_weigh 12 = .ok (.astore_n 3, 1) := by decide +kernel
theorem dL_weigh_13 : decode cL_weigh 13 = .ok (.iconst 2, 1) := by decide +kernel
theorem dL_weigh_14 : decode cL_weigh 14 = .ok (.ireturn, 1) := by decide +kernel
theorem dL_weigh_15 : decode cL_weigh 15 = .ok (.iconst 0, 1) := by decide +kernel
theorem dL_weigh_16 : decode cL_weigh 16 = .ok (.ireturn, 1) := by decide +kernel
def F_L_weigh (v0 : Nat) (v1 : Int32) (v2 : Int32) (h : Hp) : Option (Int32 × Hp × Nat × Nat) :=
  gd (decide (kd h v0 = 10)) <| ob4 (F_X11_weigh v0 v1 v2 h) fun z h1 c1 s1 => sm z (fun r1 => some ((0 : Int32), h1, c1, s1)) (fun k => if k = 2 then some ((1 : Int32), h1, c1, s1) else if k = 0 then some ((2 : Int32), h1, c1, s1) else none)
set_option maxHeartbeats 4000000 in
set_option maxRecDepth 100000 in
theorem c_L_weigh {l : Launch} (hst : l.stackTraces = false) (v0 : Nat) (v1 : Int32) (v2 : Int32) (h : Hp) {r : Int32} {hz : Hp} {c9 s9 : Nat} (e : F_L_weigh v0 v1 v2 h = some (r, hz, c9, s9)) : CtW l yL_weigh M_L_weigh (some .int) hh_L_weigh 9 [.ref v0, .int v1, .int v2] h c9 s9 (some (.int r)) hz := by
  unfold F_L_weigh at e
  obtain ⟨g1, e⟩ := gd_some e
  obtain ⟨z, h1, c1, s1, g2, e⟩ := ob4_some e
  refine CtW_of rfl rfl (fun q => by cases q) (Nat.le_of_ble_eq_true rfl) (fun x hx hT hF => ?_)
  subst hx
  show V M_L_weigh x 9 0 [(0, .ref v0), (1, .int v1), (2, .int v2)] [] h c9 s9
  refine V_aload_n (pc := 0) (i := 0) dL_weigh_0 rfl rfl ?_
  refine V_iload_n (pc := 1) (i := 1) dL_weigh_1 rfl rfl ?_
  refine V_iload_n (pc := 2) (i := 2) dL_weigh_2 rfl rfl ?_
  rcases z with r1 | k
  · replace e : some ((0 : Int32), h1, c1, s1) = some (r, hz, c9, s9) := e
    cases e
    refine V_bud0 ?_
    refine V_callV (pc := 3) (bc := 0) (bs := 0) (st := []) (As := [.int v1, .int v2]) (a := v0) (r := none) dL_weigh_3 ml_L_76 (ci := 10) rfl (of_decide_eq_true g1) rfl rfl (Nat.le_of_ble_eq_true rfl) (d' := 8) (by decide) (c_X11_weigh (l := x.2.1) v0 v1 v2 h g2) ?_
    refine V_goto (pc := 6) (tgt := 15) dL_weigh_6 (by decide) ?_
    refine V_iconst (pc := 15) (v := 0) dL_weigh_15 (by decide) ?_
    exact V_iret (pc := 16) dL_weigh_16 hF
  · replace e : (if k = 2 then some ((1 : Int32), h1, c1, s1) else if k = 0 then some ((2 : Int32), h1, c1, s1) else none) = some (r, hz, c9, s9) := e
    by_cases k0 : k = 2
    · rw [if_pos k0] at e
      cases e
      subst k0
      refine V_bud0 ?_
      refine V_catch (pc := 3) (bc := 0) (bs := 0) (hh := hh_L_weigh) (st := []) (As := [.int v1, .int v2]) (a := v0) (hpc := 9) (k9 := 3) (len := 1) (lv' := [(0, .ref v0), (1, .int v1), (2, .int v2)]) hT dL_weigh_3 ml_L_76 (ci := 10) rfl (of_decide_eq_true g1) rfl rfl (Nat.le_of_ble_eq_true rfl) (d' := 8) (by decide) (cX_X11_weigh (l := x.2.1) hst v0 v1 v2 h g2) hd_L_weigh_9 (Or.inr ⟨3, dL_weigh_9, rfl, rfl⟩) (by decide) rfl ?_
      refine V_iconst (pc := 10) (v := (1 : Int32)) dL_weigh_10 (by decide) ?_
      exact V_iret (pc := 11) dL_weigh_11 hF
    · rw [if_neg k0] at e
      by_cases k1 : k = 0
      · rw [if_pos k1] at e
        cases e
        subst k1
        refine V_bud0 ?_
        refine V_catch (pc := 3) (bc := 0) (bs := 0) (hh := hh_L_weigh) (st := []) (As := [.int v1, .int v2]) (a := v0) (hpc := 12) (k9 := 3) (len := 1) (lv' := [(0, .ref v0), (1, .int v1), (2, .int v2)]) hT dL_weigh_3 ml_L_76 (ci := 10) rfl (of_decide_eq_true g1) rfl rfl (Nat.le_of_ble_eq_true rfl) (d' := 8) (by decide) (cX_X11_weigh (l := x.2.1) hst v0 v1 v2 h g2) hd_L_weigh_12 (Or.inr ⟨3, dL_weigh_12, rfl, rfl⟩) (by decide) rfl ?_
        refine V_iconst (pc := 13) (v := (2 : Int32)) dL_weigh_13 (by decide) ?_
        exact V_iret (pc := 14) dL_weigh_14 hF
      · rw [if_neg k1] at e
        cases e
theorem dL_night_0 : decode cL_night 0 = .ok (.aload_n 2, 1) := by decide +kernel
theorem dL_night_1 : decode cL_night 1 = .ok (.iconst 0, 1) := by decide +kernel
theorem dL_night_2 : decode cL_night 2 = .ok (.aload_n 0, 1) := by decide +kernel
theorem dL_night_3 : decode cL_night 3 = .ok (.iload_n 1, 1) := by decide +kernel
theorem dL_night_4 : decode cL_night 4 = .ok (.invokevirtual 80, 3) := by decide +kernel
theorem dL_night_7 : decode cL_night 7 = .ok (.i2l, 1) := by decide +kernel
theorem dL_night_8 : decode cL_night 8 = .ok (.lastore, 1) := by decide +kernel
theorem dL_night_9 : decode cL_night 9 = .ok (.goto 6, 3) := by decide +kernel
theorem dL_night_12 : decode cL_night 12 = .ok (.astore_n 3, 1) := by decide +kernel
theorem dL_night_13 : decode cL_night 13 = .ok (.iconst 1, 1) := by decide +kernel
theorem dL_night_14 : decode cL_night 14 = .ok (.ireturn, 1) := by decide +kernel
theorem dL_night_15 : decode cL_night 15 = .ok (.iconst 0, 1) := by decide +kernel
theorem dL_night_16 : decode cL_night 16 = .ok (.ireturn, 1) := by decide +kernel
def F_L_night (v0 : Nat) (v1 : Int32) (v2 : Nat) (h : Hp) : Option (Int32 × Hp × Nat × Nat) :=
  gd (decide (kd h v0 = 10)) <| ob4 (F_X11_night v0 v1 h) fun z h1 c1 s1 => sm z (fun r1 => gd (decide (kd h1 v2 = 16)) <| gd (ix 0 (zl h1 v2)) <| some ((0 : Int32), setL h1 v2 ((0 : Int32)).toNatClampNeg r1.toInt64, c1, s1)) (fun k => if k = 0 then some ((1 : Int32), h1, c1, s1) else none)
set_option maxHeartbeats 4000000 in
set_option maxRecDepth 100000 in
theorem c_L_night {l : Launch} (hst : l.stackTraces = false) (v0 : Nat) (v1 : Int32) (v2 : Nat) (h : Hp) {r : Int32} {hz : Hp} {c9 s9 : Nat} (e : F_L_night v0 v1 v2 h = some (r, hz, c9, s9)) : CtW l yL_night M_L_night (some .int) hh_L_night 9 [.ref v0, .int v1, .ref v2] h c9 s9 (some (.int r)) hz := by
  unfold F_L_night at e
  obtain ⟨g1, e⟩ := gd_some e
  obtain ⟨z, h1, c1, s1, g2, e⟩ := ob4_some e
  refine CtW_of rfl rfl (fun q => by cases q) (Nat.le_of_ble_eq_true rfl) (fun x hx hT hF => ?_)
  subst hx
  show V M_L_night x 9 0 [(0, .ref v0), (1, .int v1), (2, .ref v2)] [] h c9 s9
  refine V_aload_n (pc := 0) (i := 2) dL_night_0 rfl rfl ?_
  refine V_iconst (pc := 1) (v := 0) dL_night_1 (by decide) ?_
  refine V_aload_n (pc := 2) (i := 0) dL_night_2 rfl rfl ?_
  refine V_iload_n (pc := 3) (i := 1) dL_night_3 rfl rfl ?_
  rcases z with r1 | k
  · replace e : (gd (decide (kd h1 v2 = 16)) <| gd (ix 0 (zl h1 v2)) <| some ((0 : Int32), setL h1 v2 ((0 : Int32)).toNatClampNeg r1.toInt64, c1, s1)) = some (r, hz, c9, s9) := e
    obtain ⟨g3, e⟩ := gd_some e
    obtain ⟨g4, e⟩ := gd_some e
    cases e
    refine V_bud0 ?_
    refine V_callV (pc := 4) (bc := 0) (bs := 0) (st := [.int (0 : Int32), .ref v2]) (As := [.int v1]) (a := v0) (r := some (.int r1)) dL_night_4 ml_L_80 (ci := 10) rfl (of_decide_eq_true g1) rfl rfl (Nat.le_of_ble_eq_true rfl) (d' := 8) (by decide) (c_X11_night (l := x.2.1) v0 v1 h g2) ?_
    refine V_i2l (pc := 7) dL_night_7 ?_
    refine V_last (pc := 8) dL_night_8 (of_decide_eq_true g3) (ix_in g4) ?_
    refine V_goto (pc := 9) (tgt := 15) dL_night_9 (by decide) ?_
    refine V_iconst (pc := 15) (v := 0) dL_night_15 (by decide) ?_
    exact V_iret (pc := 16) dL_night_16 hF
  · replace e : (if k = 0 then some ((1 : Int32), h1, c1, s1) else none) = some (r, hz, c9, s9) := e
    by_cases k0 : k = 0
    · rw [if_pos k0] at e
      cases e
      subst k0
      refine V_bud0 ?_
      refine V_catch (pc := 4) (bc := 0) (bs := 0) (hh := hh_L_night) (st := [.int (0 : Int32), .ref v2]) (As := [.int v1]) (a := v0) (hpc := 12) (k9 := 3) (len := 1) (lv' := [(0, .ref v0), (1, .int v1), (2, .ref v2)]) hT dL_night_4 ml_L_80 (ci := 10) rfl (of_decide_eq_true g1) rfl rfl (Nat.le_of_ble_eq_true rfl) (d' := 8) (by decide) (cX_X11_night (l := x.2.1) hst v0 v1 h g2) hd_L_night_12 (Or.inr ⟨3, dL_night_12, rfl, rfl⟩) (by decide) rfl ?_
      refine V_iconst (pc := 13) (v := (1 : Int32)) dL_night_13 (by decide) ?_
      exact V_iret (pc := 14) dL_night_14 hF
    · rw [if_neg k0] at e
      cases e
theorem dL_melt_0 : decode cL_melt 0 = .ok (.aload_n 2, 1) := by decide +kernel
theorem dL_melt_1 : decode cL_melt 1 = .ok (.iconst 0, 1) := by decide +kernel
theorem dL_melt_2 : decode cL_melt 2 = .ok (.aload_n 0, 1) := by decide +kernel
theorem dL_melt_3 : decode cL_melt 3 = .ok (.iload_n 1, 1) := by decide +kernel
theorem dL_melt_4 : decode cL_melt 4 = .ok (.invokevirtual 83, 3) := by decide +kernel
theorem dL_melt_7 : decode cL_melt 7 = .ok (.i2l, 1) := by decide +kernel
theorem dL_melt_8 : decode cL_melt 8 = .ok (.lastore, 1) := by decide +kernel
theorem dL_melt_9 : decode cL_melt 9 = .ok (.goto 6, 3) := by decide +kernel
theorem dL_melt_12 : decode cL_melt 12 = .ok (.astore_n 3, 1) := by decide +kernel
theorem dL_melt_13 : decode cL_melt 13 = .ok (.iconst 1, 1) := by decide +kernel
theorem dL_melt_14 : decode cL_melt 14 = .ok (.ireturn, 1) := by decide +kernel
theorem dL_melt_15 : decode cL_melt 15 = .ok (.iconst 0, 1) := by decide +kernel
theorem dL_melt_16 : decode cL_melt 16 = .ok (.ireturn, 1) := by decide +kernel
def F_L_melt (v0 : Nat) (v1 : Int32) (v2 : Nat) (h : Hp) : Option (Int32 × Hp × Nat × Nat) :=
  gd (decide (kd h v0 = 10)) <| ob4 (F_X11_melt v0 v1 h) fun z h1 c1 s1 => sm z (fun r1 => gd (decide (kd h1 v2 = 16)) <| gd (ix 0 (zl h1 v2)) <| some ((0 : Int32), setL h1 v2 ((0 : Int32)).toNatClampNeg r1.toInt64, c1, s1)) (fun k => if k = 0 then some ((1 : Int32), h1, c1, s1) else none)
set_option maxHeartbeats 4000000 in
set_option maxRecDepth 100000 in
theorem c_L_melt {l : Launch} (hst : l.stackTraces = false) (v0 : Nat) (v1 : Int32) (v2 : Nat) (h : Hp) {r : Int32} {hz : Hp} {c9 s9 : Nat} (e : F_L_melt v0 v1 v2 h = some (r, hz, c9, s9)) : CtW l yL_melt M_L_melt (some .int) hh_L_melt 9 [.ref v0, .int v1, .ref v2] h c9 s9 (some (.int r)) hz := by
  unfold F_L_melt at e
  obtain ⟨g1, e⟩ := gd_some e
  obtain ⟨z, h1, c1, s1, g2, e⟩ := ob4_some e
  refine CtW_of rfl rfl (fun q => by cases q) (Nat.le_of_ble_eq_true rfl) (fun x hx hT hF => ?_)
  subst hx
  show V M_L_melt x 9 0 [(0, .ref v0), (1, .int v1), (2, .ref v2)] [] h c9 s9
  refine V_aload_n (pc := 0) (i := 2) dL_melt_0 rfl rfl ?_
  refine V_iconst (pc := 1) (v := 0) dL_melt_1 (by decide) ?_
  refine V_aload_n (pc := 2) (i := 0) dL_melt_2 rfl rfl ?_
  refine V_iload_n (pc := 3) (i := 1) dL_melt_3 rfl rfl ?_
  rcases z with r1 | k
  · replace e : (gd (decide (kd h1 v2 = 16)) <| gd (ix 0 (zl h1 v2)) <| some ((0 : Int32), setL h1 v2 ((0 : Int32)).toNatClampNeg r1.toInt64, c1, s1)) = some (r, hz, c9, s9) := e
    obtain ⟨g3, e⟩ := gd_some e
    obtain ⟨g4, e⟩ := gd_some e
    cases e
    refine V_bud0 ?_
    refine V_callV (pc := 4) (bc := 0) (bs := 0) (st := [.int (0 : Int32), .ref v2]) (As := [.int v1]) (a := v0) (r := some (.int r1)) dL_melt_4 ml_L_83 (ci := 10) rfl (of_decide_eq_true g1) rfl rfl (Nat.le_of_ble_eq_true rfl) (d' := 8) (by decide) (c_X11_melt (l := x.2.1) v0 v1 h g2) ?_
    refine V_i2l (pc := 7) dL_melt_7 ?_
    refine V_last (pc := 8) dL_melt_8 (of_decide_eq_true g3) (ix_in g4) ?_
    refine V_goto (pc := 9) (tgt := 15) dL_melt_9 (by decide) ?_
    refine V_iconst (pc := 15) (v := 0) dL_melt_15 (by decide) ?_
    exact V_iret (pc := 16) dL_melt_16 hF
  · replace e : (if k = 0 then some ((1 : Int32), h1, c1, s1) else none) = some (r, hz, c9, s9) := e
    by_cases k0 : k = 0
    · rw [if_pos k0] at e
      cases e
      subst k0
      refine V_bud0 ?_
      refine V_catch (pc := 4) (bc := 0) (bs := 0) (hh := hh_L_melt) (st := [.int (0 : Int32), .ref v2]) (As := [.int v1]) (a := v0) (hpc := 12) (k9 := 3) (len := 1) (lv' := [(0, .ref v0), (1, .int v1), (2, .ref v2)]) hT dL_melt_4 ml_L_83 (ci := 10) rfl (of_decide_eq_true g1) rfl rfl (Nat.le_of_ble_eq_true rfl) (d' := 8) (by decide) (cX_X11_melt (l := x.2.1) hst v0 v1 h g2) hd_L_melt_12 (Or.inr ⟨3, dL_melt_12, rfl, rfl⟩) (by decide) rfl ?_
      refine V_iconst (pc := 13) (v := (1 : Int32)) dL_melt_13 (by decide) ?_
      exact V_iret (pc := 14) dL_melt_14 hF
    · rw [if_neg k0] at e
      cases e
theorem dL_rent_0 : decode cL_rent 0 = .ok (.aload 4, 2) := by decide +kernel
theorem dL_rent_2 : decode cL_rent 2 = .ok (.iconst 0, 1) := by decide +kernel
theorem dL_rent_3 : decode cL_rent 3 = .ok (.aload_n 0, 1) := by decide +kernel
theorem dL_rent_4 : decode cL_rent 4 = .ok (.iload_n 1, 1) := by decide +kernel
theorem dL_rent_5 : decode cL_rent 5 = .ok (.iload_n 2, 1) := by decide +kernel
theorem dL_rent_6 : decode cL_rent 6 = .ok (.iload_n 3, 1) := by decide +kernel
theorem dL_rent_7 : decode cL_rent 7 = .ok (.invokevirtual 86, 3) := by decide +kernel
theorem dL_rent_10 : decode cL_rent 10 = .ok (.i2l, 1) := by decide +kernel
theorem dL_rent_11 : decode cL_rent 11 = .ok (.lastore, 1) := by decide +kernel
theorem dL_rent_12 : decode cL_rent 12 = .ok (.goto 11, 3) := by decide +kernel
theorem dL_rent_15 : decode cL_rent 15 = .ok (.astore 5, 2) := by decide +kernel
theorem dL_rent_17 : decode cL_rent 17 = .ok (.iconst 1, 1) := by decide +kernel
theorem dL_rent_18 : decode cL_rent 18 = .ok (.ireturn, 1) := by decide +kernel
theorem dL_rent_19 : decode cL_rent 19 = .ok (.astore 5, 2) := by decide +kernel
theorem dL_rent_21 : decode cL_rent 21 = .ok (.iconst 2, 1) := by decide +kernel
theorem dL_rent_22 : decode cL_rent 22 = .ok (.ireturn, 1) := by decide +kernel
theorem dL_rent_23 : decode cL_rent 23 = .ok (.iconst 0, 1) := by decide +kernel
theorem dL_rent_24 : decode cL_rent 24 = .ok (.ireturn, 1) := by decide +kernel
def F_L_rent (v0 : Nat) (v1 : Int32) (v2 : Int32) (v3 : Int32) (v4 : Nat) (h : Hp) : Option (Int32 × Hp × Nat × Nat) :=
  gd (decide (kd h v0 = 10)) <| ob4 (F_X11_rent v0 v1 v2 v3 h) fun z h1 c1 s1 => sm z (fun r1 => gd (decide (kd h1 v4 = 16)) <| gd (ix 0 (zl h1 v4)) <| some ((0 : Int32), setL h1 v4 ((0 : Int32)).toNatClampNeg r1.toInt64, c1, s1)) (fun k => if k = 2 then some ((1 : Int32), h1, c1, s1) else if k = 0 then some ((2 : Int32), h1, c1, s1) else none)
set_option maxHeartbeats 4000000 in
set_option maxRecDepth 100000 in
theorem c_L_rent {l : Launch} (hst : l.stackTraces = false) (v0 : Nat) (v1 : Int32) (v2 : Int32) (v3 : Int32) (v4 : Nat) (h : Hp) {r : Int32} {hz : Hp} {c9 s9 : Nat} (e : F_L_rent v0 v1 v2 v3 v4 h = some (r, hz, c9, s9)) : CtW l yL_rent M_L_rent (some .int) hh_L_rent 9 [.ref v0, .int v1, .int v2, .int v3, .ref v4] h c9 s9 (some (.int r)) hz := by
  unfold F_L_rent at e
  obtain ⟨g1, e⟩ := gd_some e
  obtain ⟨z, h1, c1, s1, g2, e⟩ := ob4_some e
  refine CtW_of rfl rfl (fun q => by cases q) (Nat.le_of_ble_eq_true rfl) (fun x hx hT hF => ?_)
  subst hx
  show V M_L_rent x 9 0 [(0, .ref v0), (1, .int v1), (2, .int v2), (3, .int v3), (4, .ref v4)] [] h c9 s9
  refine V_aload (pc := 0) (i := 4) dL_rent_0 rfl ?_
  refine V_iconst (pc := 2) (v := 0) dL_rent_2 (by decide) ?_
  refine V_aload_n (pc := 3) (i := 0) dL_rent_3 rfl rfl ?_
  refine V_iload_n (pc := 4) (i := 1) dL_rent_4 rfl rfl ?_
  refine V_iload_n (pc := 5) (i := 2) dL_rent_5 rfl rfl ?_
  refine V_iload_n (pc := 6) (i := 3) dL_rent_6 rfl rfl ?_
  rcases z with r1 | k
  · replace e : (gd (decide (kd h1 v4 = 16)) <| gd (ix 0 (zl h1 v4)) <| some ((0 : Int32), setL h1 v4 ((0 : Int32)).toNatClampNeg r1.toInt64, c1, s1)) = some (r, hz, c9, s9) := e
    obtain ⟨g3, e⟩ := gd_some e
    obtain ⟨g4, e⟩ := gd_some e
    cases e
    refine V_bud0 ?_
    refine V_callV (pc := 7) (bc := 0) (bs := 0) (st := [.int (0 : Int32), .ref v4]) (As := [.int v1, .int v2, .int v3]) (a := v0) (r := some (.int r1)) dL_rent_7 ml_L_86 (ci := 10) rfl (of_decide_eq_true g1) rfl rfl (Nat.le_of_ble_eq_true rfl) (d' := 8) (by decide) (c_X11_rent (l := x.2.1) v0 v1 v2 v3 h g2) ?_
    refine V_i2l (pc := 10) dL_rent_10 ?_
    refine V_last (pc := 11) dL_rent_11 (of_decide_eq_true g3) (ix_in g4) ?_
    refine V_goto (pc := 12) (tgt := 23) dL_rent_12 (by decide) ?_
    refine V_iconst (pc := 23) (v := 0) dL_rent_23 (by decide) ?_
    exact V_iret (pc := 24) dL_rent_24 hF
  · replace e : (if k = 2 then some ((1 : Int32), h1, c1, s1) else if k = 0 then some ((2 : Int32), h1, c1, s1) else none) = some (r, hz, c9, s9) := e
    by_cases k0 : k = 2
    · rw [if_pos k0] at e
      cases e
      subst k0
      refine V_bud0 ?_
      refine V_catch (pc := 7) (bc := 0) (bs := 0) (hh := hh_L_rent) (st := [.int (0 : Int32), .ref v4]) (As := [.int v1, .int v2, .int v3]) (a := v0) (hpc := 15) (k9 := 5) (len := 2) (lv' := [(0, .ref v0), (1, .int v1), (2, .int v2), (3, .int v3), (4, .ref v4)]) hT dL_rent_7 ml_L_86 (ci := 10) rfl (of_decide_eq_true g1) rfl rfl (Nat.le_of_ble_eq_true rfl) (d' := 8) (by decide) (cX_X11_rent (l := x.2.1) hst v0 v1 v2 v3 h g2) hd_L_rent_15 (Or.inl ⟨dL_rent_15, rfl⟩) (by decide) rfl ?_
      refine V_iconst (pc := 17) (v := (1 : Int32)) dL_rent_17 (by decide) ?_
      exact V_iret (pc := 18) dL_rent_18 hF
    · rw [if_neg k0] at e
      by_cases k1 : k = 0
      · rw [if_pos k1] at e
        cases e
        subst k1
        refine V_bud0 ?_
        refine V_catch (pc := 7) (bc := 0) (bs := 0) (hh := hh_L_rent) (st := [.int (0 : Int32), .ref v4]) (As := [.int v1, .int v2, .int v3]) (a := v0) (hpc := 19) (k9 := 5) (len := 2) (lv' := [(0, .ref v0), (1, .int v1), (2, .int v2), (3, .int v3), (4, .ref v4)]) hT dL_rent_7 ml_L_86 (ci := 10) rfl (of_decide_eq_true g1) rfl rfl (Nat.le_of_ble_eq_true rfl) (d' := 8) (by decide) (cX_X11_rent (l := x.2.1) hst v0 v1 v2 v3 h g2) hd_L_rent_19 (Or.inl ⟨dL_rent_19, rfl⟩) (by decide) rfl ?_
        refine V_iconst (pc := 21) (v := (2 : Int32)) dL_rent_21 (by decide) ?_
        exact V_iret (pc := 22) dL_rent_22 hF
      · rw [if_neg k1] at e
        cases e

theorem dX1_walkAll_0 : decode cX1_walkAll 0 = .ok (.iload_n 2, 1) := by decide +kernel
theorem dX1_walkAll_1 : decode cX1_walkAll 1 = .ok (.istore 4, 2) := by decide +kernel
theorem dX1_walkAll_3 : decode cX1_walkAll 3 = .ok (.iload 4, 2) := by decide +kernel
theorem dX1_walkAll_5 : decode cX1_walkAll 5 = .ok (.aload_n 1, 1) := by decide +kernel
theorem dX1_walkAll_6 : decode cX1_walkAll 6 = .ok (.getfield 55, 3) := by decide +kernel
theorem dX1_walkAll_9 : decode cX1_walkAll 9 = .ok (.if_icmp .ge 46, 3) := by decide +kernel
theorem dX1_walkAll_12 : decode cX1_walkAll 12 = .ok (.iload 4, 2) := by decide +kernel
theorem dX1_walkAll_14 : decode cX1_walkAll 14 = .ok (.bipush 20, 2) := by decide +kernel
theorem dX1_walkAll_16 : decode cX1_walkAll 16 = .ok (.if_icmp .ge 39, 3) := by decide +kernel
theorem dX1_walkAll_19 : decode cX1_walkAll 19 = .ok (.aload_n 1, 1) := by decide +kernel
theorem dX1_walkAll_20 : decode cX1_walkAll 20 = .ok (.getfield 60, 3) := by decide +kernel
theorem dX1_walkAll_23 : decode cX1_walkAll 23 = .ok (.iload 4, 2) := by decide +kernel
theorem dX1_walkAll_25 : decode cX1_walkAll 25 = .ok (.iaload, 1) := by decide +kernel
theorem dX1_walkAll_26 : decode cX1_walkAll 26 = .ok (.iload_n 3, 1) := by decide +kernel
theorem dX1_walkAll_27 : decode cX1_walkAll 27 = .ok (.if_icmp .ne 28, 3) := by decide +kernel
theorem dX1_walkAll_30 : decode cX1_walkAll 30 = .ok (.aload_n 0, 1) := by decide +kernel
theorem dX1_walkAll_31 : decode cX1_walkAll 31 = .ok (.getfield 9, 3) := by decide +kernel
theorem dX1_walkAll_34 : decode cX1_walkAll 34 = .ok (.aload_n 1, 1) := by decide +kernel
theorem dX1_walkAll_35 : decode cX1_walkAll 35 = .ok (.getfield 63, 3) := by decide +kernel
theorem dX1_walkAll_38 : decode cX1_walkAll 38 = .ok (.iload 4, 2) := by decide +kernel
theorem dX1_walkAll_40 : decode cX1_walkAll 40 = .ok (.iaload, 1) := by decide +kernel
theorem dX1_walkAll_41 : decode cX1_walkAll 41 = .ok (.aload_n 1, 1) := by decide +kernel
theorem dX1_walkAll_42 : decode cX1_walkAll 42 = .ok (.getfield 66, 3) := by decide +kernel
theorem dX1_walkAll_45 : decode cX1_walkAll 45 = .ok (.iload 4, 2) := by decide +kernel
theorem dX1_walkAll_47 : decode cX1_walkAll 47 = .ok (.iaload, 1) := by decide +kernel
theorem dX1_walkAll_48 : decode cX1_walkAll 48 = .ok (.iastore, 1) := by decide +kernel
theorem dX1_walkAll_49 : decode cX1_walkAll 49 = .ok (.iinc 4 1, 3) := by decide +kernel
theorem dX1_walkAll_52 : decode cX1_walkAll 52 = .ok (.goto (-49), 3) := by decide +kernel
theorem dX1_walkAll_55 : decode cX1_walkAll 55 = .ok (.iload 4, 2) := by decide +kernel
theorem dX1_walkAll_57 : decode cX1_walkAll 57 = .ok (.ireturn, 1) := by decide +kernel
set_option maxRecDepth 100000 in
def F_X1_walkAll_l3 (v0 : Nat) (v1 : Nat) (v3 : Int32) (v4 : Int32) (h : Hp) : Option ((Int32 × Hp) ⊕ (Int32 × Hp)) :=
  gd (decide (kd h v1 = 0)) <| (if (zI h v1 0) ≤ v4 then some (.inr (v4, h)) else (if (20 : Int32) ≤ v4 then some (.inr (v4, h)) else ob (zR h v1 1) fun q2 => gd (decide (kd h q2 = 13)) <| gd (ix v4 (zl h q2)) <| (if (zI h q2 (v4).toNatClampNeg) = v3 then gd (decide (kd h v0 = 1)) <| ob (zR h v0 0) fun q7 => ob (zR h v1 2) fun q9 => gd (decide (kd h q9 = 13)) <| gd (ix v4 (zl h q9)) <| ob (zR h v1 3) fun q13 => gd (decide (kd h q13 = 13)) <| gd (ix v4 (zl h q13)) <| gd (decide (kd h q7 = 13)) <| gd (ix (zI h q9 (v4).toNatClampNeg) (zl h q7)) <| some (.inl (v4 + (1 : Int32), setI h q7 (zI h q9 (v4).toNatClampNeg).toNatClampNeg (zI h q13 (v4).toNatClampNeg))) else some (.inr (v4, h)))))
set_option maxHeartbeats 4000000 in
set_option maxRecDepth 100000 in
theorem r_X1_walkAll_l3 (v0 : Nat) (v1 : Nat) (v3 : Int32) (v4 : Int32) (h : Hp) {x : Cx} {o : ((Int32 × Hp) ⊕ (Int32 × Hp))} (e : F_X1_walkAll_l3 v0 v1 v3 v4 h = some o) (kI : ∀ z, o = .inl z → V M_X1_walkAll x 0 3 [(0, .ref v0), (1, .ref v1), (3, .int v3), (4, .int z.1)] [] z.2 0 0) (kE55 : ∀ z : Int32 × Hp, o = .inr z → V M_X1_walkAll x 0 55 [(4, .int z.1)] [] z.2 0 0) : V M_X1_walkAll x 0 3 [(0, .ref v0), (1, .ref v1), (3, .int v3), (4, .int v4)] [] h 0 0 := by
  unfold F_X1_walkAll_l3 at e
  refine V_iload (pc := 3) (i := 4) dX1_walkAll_3 rfl ?_
  refine V_aload_n (pc := 5) (i := 1) dX1_walkAll_5 rfl rfl ?_
  obtain ⟨g1, e⟩ := gd_some e
  refine V_getI (pc := 6) (ci := 0) (k := 0) dX1_walkAll_6 fl_X1_55 rfl (of_decide_eq_true g1) ?_
  refine V_icmp_ge (pc := 9) (tgt := 55) dX1_walkAll_9 (by decide) (fun c21 => ?_) (fun c21 => ?_)
  · rw [if_pos c21] at e
    cases e
    exact V_pick [3] rfl (kE55 _ rfl)
  · rw [if_neg c21] at e
    refine V_pick [0, 1, 2, 3] rfl ?_
    refine V_iload (pc := 12) (i := 4) dX1_walkAll_12 rfl ?_
    refine V_bipush (pc := 14) (v := (20 : Int32)) dX1_walkAll_14 (by decide) ?_
    refine V_icmp_ge (pc := 16) (tgt := 55) dX1_walkAll_16 (by decide) (fun c20 => ?_) (fun c20 => ?_)
    · rw [if_pos c20] at e
      cases e
      exact V_pick [3] rfl (kE55 _ rfl)
    · rw [if_neg c20] at e
      refine V_pick [0, 1, 2, 3] rfl ?_
      refine V_aload_n (pc := 19) (i := 1) dX1_walkAll_19 rfl rfl ?_
      obtain ⟨q2, g3, e⟩ := ob_some e
      refine V_getR (pc := 20) (ci := 0) (k := 1) (b := q2) dX1_walkAll_20 fl_X1_60 rfl (of_decide_eq_true g1) g3 ?_
      refine V_iload (pc := 23) (i := 4) dX1_walkAll_23 rfl ?_
      obtain ⟨g4, e⟩ := gd_some e
      obtain ⟨g5, e⟩ := gd_some e
      refine V_iald (pc := 25) dX1_walkAll_25 (of_decide_eq_true g4) (ix_in g5) ?_
      refine V_iload_n (pc := 26) (i := 3) dX1_walkAll_26 rfl rfl ?_
      refine V_icmp_ne (pc := 27) (tgt := 55) dX1_walkAll_27 (by decide) (fun c19 => ?_) (fun c19 => ?_)
      · rw [if_neg c19] at e
        cases e
        exact V_pick [3] rfl (kE55 _ rfl)
      · rw [if_pos c19] at e
        refine V_pick [0, 1, 2, 3] rfl ?_
        refine V_aload_n (pc := 30) (i := 0) dX1_walkAll_30 rfl rfl ?_
        obtain ⟨g6, e⟩ := gd_some e
        obtain ⟨q7, g8, e⟩ := ob_some e
        refine V_getR (pc := 31) (ci := 1) (k := 0) (b := q7) dX1_walkAll_31 fl_X1_9 rfl (of_decide_eq_true g6) g8 ?_
        refine V_aload_n (pc := 34) (i := 1) dX1_walkAll_34 rfl rfl ?_
        obtain ⟨q9, g10, e⟩ := ob_some e
        refine V_getR (pc := 35) (ci := 0) (k := 2) (b := q9) dX1_walkAll_35 fl_X1_63 rfl (of_decide_eq_true g1) g10 ?_
        refine V_iload (pc := 38) (i := 4) dX1_walkAll_38 rfl ?_
        obtain ⟨g11, e⟩ := gd_some e
        obtain ⟨g12, e⟩ := gd_some e
        refine V_iald (pc := 40) dX1_walkAll_40 (of_decide_eq_true g11) (ix_in g12) ?_
        refine V_aload_n (pc := 41) (i := 1) dX1_walkAll_41 rfl rfl ?_
        obtain ⟨q13, g14, e⟩ := ob_some e
        refine V_getR (pc := 42) (ci := 0) (k := 3) (b := q13) dX1_walkAll_42 fl_X1_66 rfl (of_decide_eq_true g1) g14 ?_
        refine V_iload (pc := 45) (i := 4) dX1_walkAll_45 rfl ?_
        obtain ⟨g15, e⟩ := gd_some e
        obtain ⟨g16, e⟩ := gd_some e
        refine V_iald (pc := 47) dX1_walkAll_47 (of_decide_eq_true g15) (ix_in g16) ?_
        obtain ⟨g17, e⟩ := gd_some e
        obtain ⟨g18, e⟩ := gd_some e
        refine V_iast (pc := 48) dX1_walkAll_48 (of_decide_eq_true g17) (ix_in g18) ?_
        refine V_iinc (pc := 49) (i := 4) (u := v4 + (1 : Int32)) (lv' := [(4, .int (v4 + (1 : Int32))), (0, .ref v0), (1, .ref v1), (3, .int v3)]) dX1_walkAll_49 rfl rfl (by decide) rfl ?_
        refine V_goto (pc := 52) (tgt := 3) dX1_walkAll_52 (by decide) ?_
        cases e
        exact V_pick [1, 2, 3, 0] rfl (kI _ rfl)
set_option maxRecDepth 100000 in
def F_X1_walkAll_b55 (v4 : Int32) (h : Hp) : Option (Int32 × Hp) :=
  some (v4, h)
set_option maxHeartbeats 4000000 in
set_option maxRecDepth 100000 in
theorem r_X1_walkAll_b55 (v4 : Int32) (h : Hp) {x : Cx} {r : Int32} {hz : Hp} (e : F_X1_walkAll_b55 v4 h = some (r, hz)) (hF : Fin9 M_X1_walkAll x (some .int) (some (.int r)) hz) : V M_X1_walkAll x 0 55 [(4, .int v4)] [] h 0 0 := by
  unfold F_X1_walkAll_b55 at e
  refine V_iload (pc := 55) (i := 4) dX1_walkAll_55 rfl ?_
  cases e
  exact V_iret (pc := 57) dX1_walkAll_57 hF
set_option maxRecDepth 100000 in
def F_X1_walkAll_b0 (v0 : Nat) (v1 : Nat) (v2 : Int32) (v3 : Int32) (h : Hp) : Option (Int32 × Hp) :=
  ob (iter (fun z : Int32 × Hp => F_X1_walkAll_l3 v0 v1 v3 z.1 z.2) FU (v2, h)) (fun z => un2 z fun w22 h23 => F_X1_walkAll_b55 w22 h23)
set_option maxHeartbeats 4000000 in
set_option maxRecDepth 100000 in
theorem r_X1_walkAll_b0 (v0 : Nat) (v1 : Nat) (v2 : Int32) (v3 : Int32) (h : Hp) {x : Cx} {r : Int32} {hz : Hp} (e : F_X1_walkAll_b0 v0 v1 v2 v3 h = some (r, hz)) (hF : Fin9 M_X1_walkAll x (some .int) (some (.int r)) hz) : V M_X1_walkAll x 0 0 [(0, .ref v0), (1, .ref v1), (2, .int v2), (3, .int v3)] [] h 0 0 := by
  unfold F_X1_walkAll_b0 at e
  refine V_iload_n (pc := 0) (i := 2) dX1_walkAll_0 rfl rfl ?_
  refine V_istore (pc := 1) (i := 4) (lv' := [(4, .int v2), (0, .ref v0), (1, .ref v1), (2, .int v2), (3, .int v3)]) dX1_walkAll_1 (by decide) rfl ?_
  refine V_pick [1, 2, 4, 0] rfl ?_
  obtain ⟨y24, g25, e⟩ := ob_some e
  refine iter_V (P := fun z : Int32 × Hp => V M_X1_walkAll x 0 3 [(0, .ref v0), (1, .ref v1), (3, .int v3), (4, .int z.1)] [] z.2 0 0) (E := fun z : Int32 × Hp => V M_X1_walkAll x 0 55 [(4, .int z.1)] [] z.2 0 0) (fun z o e9 k1 k2 => r_X1_walkAll_l3 v0 v1 v3 z.1 z.2 e9 (fun z hz9 => k1 z hz9) (fun z hz9 => k2 _ hz9)) _ _ _ g25 ?_
  clear g25
  obtain ⟨w22, h23⟩ := y24
  replace e : (F_X1_walkAll_b55 w22 h23) = some (r, hz) := e
  show V M_X1_walkAll x 0 55 [(4, .int w22)] [] h23 0 0
  exact V_pick [0] rfl (r_X1_walkAll_b55 w22 h23 e hF)
def F_X1_walkAll (v0 : Nat) (v1 : Nat) (v2 : Int32) (v3 : Int32) (h : Hp) : Option (Int32 × Hp) := F_X1_walkAll_b0 v0 v1 v2 v3 h
theorem c_X1_walkAll {l : Launch} (v0 : Nat) (v1 : Nat) (v2 : Int32) (v3 : Int32) (h : Hp) {r : Int32} {hz : Hp} (e : F_X1_walkAll v0 v1 v2 v3 h = some (r, hz)) : Ct l yX1_walkAll M_X1_walkAll (some .int) 0 [.ref v0, .ref v1, .int v2, .int v3] h 0 0 (some (.int r)) hz :=
  Ct_of rfl rfl (fun q => by cases q) (Nat.le_of_ble_eq_true rfl) (fun x _ hF => V_pick [0, 1, 2, 3] rfl (r_X1_walkAll_b0 v0 v1 v2 v3 h e hF))
theorem dX1_direction_0 : decode cX1_direction 0 = .ok (.iload_n 0, 1) := by decide +kernel
theorem dX1_direction_1 : decode cX1_direction 1 = .ok (.iload_n 1, 1) := by decide +kernel
theorem dX1_direction_2 : decode cX1_direction 2 = .ok (.if_icmp .le 5, 3) := by decide +kernel
theorem dX1_direction_5 : decode cX1_direction 5 = .ok (.iconst 1, 1) := by decide +kernel
theorem dX1_direction_6 : decode cX1_direction 6 = .ok (.ireturn, 1) := by decide +kernel
theorem dX1_direction_7 : decode cX1_direction 7 = .ok (.iload_n 0, 1) := by decide +kernel
theorem dX1_direction_8 : decode cX1_direction 8 = .ok (.iload_n 1, 1) := by decide +kernel
theorem dX1_direction_9 : decode cX1_direction 9 = .ok (.ineg, 1) := by decide +kernel
theorem dX1_direction_10 : decode cX1_direction 10 = .ok (.if_icmp .ge 7, 3) := by decide +kernel
theorem dX1_direction_13 : decode cX1_direction 13 = .ok (.iconst (-1), 1) := by decide +kernel
theorem dX1_direction_14 : decode cX1_direction 14 = .ok (.goto 4, 3) := by decide +kernel
theorem dX1_direction_17 : decode cX1_direction 17 = .ok (.iconst 0, 1) := by decide +kernel
theorem dX1_direction_18 : decode cX1_direction 18 = .ok (.ireturn, 1) := by decide +kernel
set_option maxRecDepth 100000 in
def F_X1_direction_b18 (t0 : Int32) (h : Hp) : Option Int32 :=
  some t0
set_option maxHeartbeats 4000000 in
set_option maxRecDepth 100000 in
theorem r_X1_direction_b18 (t0 : Int32) (h : Hp) {x : Cx} {r : Int32} (e : F_X1_direction_b18 t0 h = some r) (hF : Fin9 M_X1_direction x (some .int) (some (.int r)) h) : V M_X1_direction x 0 18 [] [.int t0] h 0 0 := by
  unfold F_X1_direction_b18 at e
  cases e
  exact V_iret (pc := 18) dX1_direction_18 hF
set_option maxRecDepth 100000 in
def F_X1_direction_b0 (v0 : Int32) (v1 : Int32) (h : Hp) : Option Int32 :=
  (if v0 ≤ v1 then (if (0 - v1) ≤ v0 then F_X1_direction_b18 (0 : Int32) h else F_X1_direction_b18 (-1 : Int32) h) else some (1 : Int32))
set_option maxHeartbeats 4000000 in
set_option maxRecDepth 100000 in
theorem r_X1_direction_b0 (v0 : Int32) (v1 : Int32) (h : Hp) {x : Cx} {r : Int32} (e : F_X1_direction_b0 v0 v1 h = some r) (hF : Fin9 M_X1_direction x (some .int) (some (.int r)) h) : V M_X1_direction x 0 0 [(0, .int v0), (1, .int v1)] [] h 0 0 := by
  unfold F_X1_direction_b0 at e
  refine V_iload_n (pc := 0) (i := 0) dX1_direction_0 rfl rfl ?_
  refine V_iload_n (pc := 1) (i := 1) dX1_direction_1 rfl rfl ?_
  refine V_icmp_le (pc := 2) (tgt := 7) dX1_direction_2 (by decide) (fun c2 => ?_) (fun c2 => ?_)
  · rw [if_pos c2] at e
    refine V_pick [0, 1] rfl ?_
    refine V_iload_n (pc := 7) (i := 0) dX1_direction_7 rfl rfl ?_
    refine V_iload_n (pc := 8) (i := 1) dX1_direction_8 rfl rfl ?_
    refine V_ineg (pc := 9) dX1_direction_9 ?_
    refine V_icmp_ge (pc := 10) (tgt := 17) dX1_direction_10 (by decide) (fun c1 => ?_) (fun c1 => ?_)
    · rw [if_pos c1] at e
      refine V_pick [] rfl ?_
      refine V_iconst (pc := 17) (v := (0 : Int32)) dX1_direction_17 (by decide) ?_
      exact V_pick [] rfl (r_X1_direction_b18 (0 : Int32) h e hF)
    · rw [if_neg c1] at e
      refine V_pick [] rfl ?_
      refine V_iconst (pc := 13) (v := (-1 : Int32)) dX1_direction_13 (by decide) ?_
      refine V_goto (pc := 14) (tgt := 18) dX1_direction_14 (by decide) ?_
      exact V_pick [] rfl (r_X1_direction_b18 (-1 : Int32) h e hF)
  · rw [if_neg c2] at e
    refine V_pick [] rfl ?_
    refine V_iconst (pc := 5) (v := (1 : Int32)) dX1_direction_5 (by decide) ?_
    cases e
    exact V_iret (pc := 6) dX1_direction_6 hF
def F_X1_direction (v0 : Int32) (v1 : Int32) (h : Hp) : Option Int32 := F_X1_direction_b0 v0 v1 h
theorem c_X1_direction {l : Launch} (v0 : Int32) (v1 : Int32) (h : Hp) {r : Int32} (e : F_X1_direction v0 v1 h = some r) : Ct l yX1_direction M_X1_direction (some .int) 0 [.int v0, .int v1] h 0 0 (some (.int r)) h :=
  Ct_of rfl rfl (fun q => by cases q) (Nat.le_of_ble_eq_true rfl) (fun x _ hF => V_pick [0, 1] rfl (r_X1_direction_b0 v0 v1 h e hF))
theorem dX2_hasRoom_0 : decode cX2_hasRoom 0 = .ok (.iload_n 1, 1) := by decide +kernel
theorem dX2_hasRoom_1 : decode cX2_hasRoom 1 = .ok (.ifCond .lt 15, 3) := by decide +kernel
theorem dX2_hasRoom_4 : decode cX2_hasRoom 4 = .ok (.iload_n 1, 1) := by decide +kernel
theorem dX2_hasRoom_5 : decode cX2_hasRoom 5 = .ok (.aload_n 0, 1) := by decide +kernel
theorem dX2_hasRoom_6 : decode cX2_hasRoom 6 = .ok (.getfield 9, 3) := by decide +kernel
theorem dX2_hasRoom_9 : decode cX2_hasRoom 9 = .ok (.if_icmp .ge 7, 3) := by decide +kernel
theorem dX2_hasRoom_12 : decode cX2_hasRoom 12 = .ok (.iconst 1, 1) := by decide +kernel
theorem dX2_hasRoom_13 : decode cX2_hasRoom 13 = .ok (.goto 4, 3) := by decide +kernel
theorem dX2_hasRoom_16 : decode cX2_hasRoom 16 = .ok (.iconst 0, 1) := by decide +kernel
theorem dX2_hasRoom_17 : decode cX2_hasRoom 17 = .ok (.ireturn, 1) := by decide +kernel
set_option maxRecDepth 100000 in
def F_X2_hasRoom_b17 (t0 : Int32) (h : Hp) : Option Int32 :=
  gd (decide (t0 = 0 ∨ t0 = 1)) <| some t0
set_option maxHeartbeats 4000000 in
set_option maxRecDepth 100000 in
theorem r_X2_hasRoom_b17 (t0 : Int32) (h : Hp) {x : Cx} {r : Int32} (e : F_X2_hasRoom_b17 t0 h = some r) (hF : Fin9 M_X2_hasRoom x (some .boolean) (some (.int r)) h) : V M_X2_hasRoom x 0 17 [] [.int t0] h 0 0 := by
  unfold F_X2_hasRoom_b17 at e
  obtain ⟨g1, e⟩ := gd_some e
  cases e
  exact V_zret (pc := 17) dX2_hasRoom_17 (z01 (of_decide_eq_true g1)) hF
set_option maxRecDepth 100000 in
def F_X2_hasRoom_b16  (h : Hp) : Option Int32 :=
  F_X2_hasRoom_b17 (0 : Int32) h
set_option maxHeartbeats 4000000 in
set_option maxRecDepth 100000 in
theorem r_X2_hasRoom_b16  (h : Hp) {x : Cx} {r : Int32} (e : F_X2_hasRoom_b16  h = some r) (hF : Fin9 M_X2_hasRoom x (some .boolean) (some (.int r)) h) : V M_X2_hasRoom x 0 16 [] [] h 0 0 := by
  unfold F_X2_hasRoom_b16 at e
  refine V_iconst (pc := 16) (v := (0 : Int32)) dX2_hasRoom_16 (by decide) ?_
  exact V_pick [] rfl (r_X2_hasRoom_b17 (0 : Int32) h e hF)
set_option maxRecDepth 100000 in
def F_X2_hasRoom_b0 (v0 : Nat) (v1 : Int32) (h : Hp) : Option Int32 :=
  (if v1 < 0 then F_X2_hasRoom_b16 h else gd (decide (kd h v0 = 2)) <| (if (zI h v0 0) ≤ v1 then F_X2_hasRoom_b16 h else F_X2_hasRoom_b17 (1 : Int32) h))
set_option maxHeartbeats 4000000 in
set_option maxRecDepth 100000 in
theorem r_X2_hasRoom_b0 (v0 : Nat) (v1 : Int32) (h : Hp) {x : Cx} {r : Int32} (e : F_X2_hasRoom_b0 v0 v1 h = some r) (hF : Fin9 M_X2_hasRoom x (some .boolean) (some (.int r)) h) : V M_X2_hasRoom x 0 0 [(0, .ref v0), (1, .int v1)] [] h 0 0 := by
  unfold F_X2_hasRoom_b0 at e
  refine V_iload_n (pc := 0) (i := 1) dX2_hasRoom_0 rfl rfl ?_
  refine V_if_lt (pc := 1) (tgt := 16) dX2_hasRoom_1 (by decide) (fun c4 => ?_) (fun c4 => ?_)
  · rw [if_pos c4] at e
    exact V_pick [] rfl (r_X2_hasRoom_b16 h e hF)
  · rw [if_neg c4] at e
    refine V_pick [0, 1] rfl ?_
    refine V_iload_n (pc := 4) (i := 1) dX2_hasRoom_4 rfl rfl ?_
    refine V_aload_n (pc := 5) (i := 0) dX2_hasRoom_5 rfl rfl ?_
    obtain ⟨g2, e⟩ := gd_some e
    refine V_getI (pc := 6) (ci := 2) (k := 0) dX2_hasRoom_6 fl_X2_9 rfl (of_decide_eq_true g2) ?_
    refine V_icmp_ge (pc := 9) (tgt := 16) dX2_hasRoom_9 (by decide) (fun c3 => ?_) (fun c3 => ?_)
    · rw [if_pos c3] at e
      exact V_pick [] rfl (r_X2_hasRoom_b16 h e hF)
    · rw [if_neg c3] at e
      refine V_pick [] rfl ?_
      refine V_iconst (pc := 12) (v := (1 : Int32)) dX2_hasRoom_12 (by decide) ?_
      refine V_goto (pc := 13) (tgt := 17) dX2_hasRoom_13 (by decide) ?_
      exact V_pick [] rfl (r_X2_hasRoom_b17 (1 : Int32) h e hF)
def F_X2_hasRoom (v0 : Nat) (v1 : Int32) (h : Hp) : Option Int32 := F_X2_hasRoom_b0 v0 v1 h
theorem c_X2_hasRoom {l : Launch} (v0 : Nat) (v1 : Int32) (h : Hp) {r : Int32} (e : F_X2_hasRoom v0 v1 h = some r) : Ct l yX2_hasRoom M_X2_hasRoom (some .boolean) 0 [.ref v0, .int v1] h 0 0 (some (.int r)) h :=
  Ct_of rfl rfl (fun q => by cases q) (Nat.le_of_ble_eq_true rfl) (fun x _ hF => V_pick [0, 1] rfl (r_X2_hasRoom_b0 v0 v1 h e hF))
theorem dX2_hasGuest_0 : decode cX2_hasGuest 0 = .ok (.iload_n 1, 1) := by decide +kernel
theorem dX2_hasGuest_1 : decode cX2_hasGuest 1 = .ok (.ifCond .lt 15, 3) := by decide +kernel
theorem dX2_hasGuest_4 : decode cX2_hasGuest 4 = .ok (.iload_n 1, 1) := by decide +kernel
theorem dX2_hasGuest_5 : decode cX2_hasGuest 5 = .ok (.aload_n 0, 1) := by decide +kernel
theorem dX2_hasGuest_6 : decode cX2_hasGuest 6 = .ok (.getfield 28, 3) := by decide +kernel
theorem dX2_hasGuest_9 : decode cX2_hasGuest 9 = .ok (.if_icmp .ge 7, 3) := by decide +kernel
theorem dX2_hasGuest_12 : decode cX2_hasGuest 12 = .ok (.iconst 1, 1) := by decide +kernel
theorem dX2_hasGuest_13 : decode cX2_hasGuest 13 = .ok (.goto 4, 3) := by decide +kernel
theorem dX2_hasGuest_16 : decode cX2_hasGuest 16 = .ok (.iconst 0, 1) := by decide +kernel
theorem dX2_hasGuest_17 : decode cX2_hasGuest 17 = .ok (.ireturn, 1) := by decide +kernel
set_option maxRecDepth 100000 in
def F_X2_hasGuest_b17 (t0 : Int32) (h : Hp) : Option Int32 :=
  gd (decide (t0 = 0 ∨ t0 = 1)) <| some t0
set_option maxHeartbeats 4000000 in
set_option maxRecDepth 100000 in
theorem r_X2_hasGuest_b17 (t0 : Int32) (h : Hp) {x : Cx} {r : Int32} (e : F_X2_hasGuest_b17 t0 h = some r) (hF : Fin9 M_X2_hasGuest x (some .boolean) (some (.int r)) h) : V M_X2_hasGuest x 0 17 [] [.int t0] h 0 0 := by
  unfold F_X2_hasGuest_b17 at e
  obtain ⟨g1, e⟩ := gd_some e
  cases e
  exact V_zret (pc := 17) dX2_hasGuest_17 (z01 (of_decide_eq_true g1)) hF
set_option maxRecDepth 100000 in
def F_X2_hasGuest_b16  (h : Hp) : Option Int32 :=
  F_X2_hasGuest_b17 (0 : Int32) h
set_option maxHeartbeats 4000000 in
set_option maxRecDepth 100000 in
theorem r_X2_hasGuest_b16  (h : Hp) {x : Cx} {r : Int32} (e : F_X2_hasGuest_b16  h = some r) (hF : Fin9 M_X2_hasGuest x (some .boolean) (some (.int r)) h) : V M_X2_hasGuest x 0 16 [] [] h 0 0 := by
  unfold F_X2_hasGuest_b16 at e
  refine V_iconst (pc := 16) (v := (0 : Int32)) dX2_hasGuest_16 (by decide) ?_
  exact V_pick [] rfl (r_X2_hasGuest_b17 (0 : Int32) h e hF)
set_option maxRecDepth 100000 in
def F_X2_hasGuest_b0 (v0 : Nat) (v1 : Int32) (h : Hp) : Option Int32 :=
  (if v1 < 0 then F_X2_hasGuest_b16 h else gd (decide (kd h v0 = 2)) <| (if (zI h v0 5) ≤ v1 then F_X2_hasGuest_b16 h else F_X2_hasGuest_b17 (1 : Int32) h))
set_option maxHeartbeats 4000000 in
set_option maxRecDepth 100000 in
theorem r_X2_hasGuest_b0 (v0 : Nat) (v1 : Int32) (h : Hp) {x : Cx} {r : Int32} (e : F_X2_hasGuest_b0 v0 v1 h = some r) (hF : Fin9 M_X2_hasGuest x (some .boolean) (some (.int r)) h) : V M_X2_hasGuest x 0 0 [(0, .ref v0), (1, .int v1)] [] h 0 0 := by
  unfold F_X2_hasGuest_b0 at e
  refine V_iload_n (pc := 0) (i := 1) dX2_hasGuest_0 rfl rfl ?_
  refine V_if_lt (pc := 1) (tgt := 16) dX2_hasGuest_1 (by decide) (fun c4 => ?_) (fun c4 => ?_)
  · rw [if_pos c4] at e
    exact V_pick [] rfl (r_X2_hasGuest_b16 h e hF)
  · rw [if_neg c4] at e
    refine V_pick [0, 1] rfl ?_
    refine V_iload_n (pc := 4) (i := 1) dX2_hasGuest_4 rfl rfl ?_
    refine V_aload_n (pc := 5) (i := 0) dX2_hasGuest_5 rfl rfl ?_
    obtain ⟨g2, e⟩ := gd_some e
    refine V_getI (pc := 6) (ci := 2) (k := 5) dX2_hasGuest_6 fl_X2_28 rfl (of_decide_eq_true g2) ?_
    refine V_icmp_ge (pc := 9) (tgt := 16) dX2_hasGuest_9 (by decide) (fun c3 => ?_) (fun c3 => ?_)
    · rw [if_pos c3] at e
      exact V_pick [] rfl (r_X2_hasGuest_b16 h e hF)
    · rw [if_neg c3] at e
      refine V_pick [] rfl ?_
      refine V_iconst (pc := 12) (v := (1 : Int32)) dX2_hasGuest_12 (by decide) ?_
      refine V_goto (pc := 13) (tgt := 17) dX2_hasGuest_13 (by decide) ?_
      exact V_pick [] rfl (r_X2_hasGuest_b17 (1 : Int32) h e hF)
def F_X2_hasGuest (v0 : Nat) (v1 : Int32) (h : Hp) : Option Int32 := F_X2_hasGuest_b0 v0 v1 h
theorem c_X2_hasGuest {l : Launch} (v0 : Nat) (v1 : Int32) (h : Hp) {r : Int32} (e : F_X2_hasGuest v0 v1 h = some r) : Ct l yX2_hasGuest M_X2_hasGuest (some .boolean) 0 [.ref v0, .int v1] h 0 0 (some (.int r)) h :=
  Ct_of rfl rfl (fun q => by cases q) (Nat.le_of_ble_eq_true rfl) (fun x _ hF => V_pick [0, 1] rfl (r_X2_hasGuest_b0 v0 v1 h e hF))
theorem dX2_hasReading_0 : decode cX2_hasReading 0 = .ok (.iload_n 1, 1) := by decide +kernel
theorem dX2_hasReading_1 : decode cX2_hasReading 1 = .ok (.ifCond .lt 15, 3) := by decide +kernel
theorem dX2_hasReading_4 : decode cX2_hasReading 4 = .ok (.iload_n 1, 1) := by decide +kernel
theorem dX2_hasReading_5 : decode cX2_hasReading 5 = .ok (.aload_n 0, 1) := by decide +kernel
theorem dX2_hasReading_6 : decode cX2_hasReading 6 = .ok (.getfield 75, 3) := by decide +kernel
theorem dX2_hasReading_9 : decode cX2_hasReading 9 = .ok (.if_icmp .ge 7, 3) := by decide +kernel
theorem dX2_hasReading_12 : decode cX2_hasReading 12 = .ok (.iconst 1, 1) := by decide +kernel
theorem dX2_hasReading_13 : decode cX2_hasReading 13 = .ok (.goto 4, 3) := by decide +kernel
theorem dX2_hasReading_16 : decode cX2_hasReading 16 = .ok (.iconst 0, 1) := by decide +kernel
theorem dX2_hasReading_17 : decode cX2_hasReading 17 = .ok (.ireturn, 1) := by decide +kernel
set_option maxRecDepth 100000 in
def F_X2_hasReading_b17 (t0 : Int32) (h : Hp) : Option Int32 :=
  gd (decide (t0 = 0 ∨ t0 = 1)) <| some t0
set_option maxHeartbeats 4000000 in
set_option maxRecDepth 100000 in
theorem r_X2_hasReading_b17 (t0 : Int32) (h : Hp) {x : Cx} {r : Int32} (e : F_X2_hasReading_b17 t0 h = some r) (hF : Fin9 M_X2_hasReading x (some .boolean) (some (.int r)) h) : V M_X2_hasReading x 0 17 [] [.int t0] h 0 0 := by
  unfold F_X2_hasReading_b17 at e
  obtain ⟨g1, e⟩ := gd_some e
  cases e
  exact V_zret (pc := 17) dX2_hasReading_17 (z01 (of_decide_eq_true g1)) hF
set_option maxRecDepth 100000 in
def F_X2_hasReading_b16  (h : Hp) : Option Int32 :=
  F_X2_hasReading_b17 (0 : Int32) h
set_option maxHeartbeats 4000000 in
set_option maxRecDepth 100000 in
theorem r_X2_hasReading_b16  (h : Hp) {x : Cx} {r : Int32} (e : F_X2_hasReading_b16  h = some r) (hF : Fin9 M_X2_hasReading x (some .boolean) (some (.int r)) h) : V M_X2_hasReading x 0 16 [] [] h 0 0 := by
  unfold F_X2_hasReading_b16 at e
  refine V_iconst (pc := 16) (v := (0 : Int32)) dX2_hasReading_16 (by decide) ?_
  exact V_pick [] rfl (r_X2_hasReading_b17 (0 : Int32) h e hF)
set_option maxRecDepth 100000 in
def F_X2_hasReading_b0 (v0 : Nat) (v1 : Int32) (h : Hp) : Option Int32 :=
  (if v1 < 0 then F_X2_hasReading_b16 h else gd (decide (kd h v0 = 2)) <| (if (zI h v0 17) ≤ v1 then F_X2_hasReading_b16 h else F_X2_hasReading_b17 (1 : Int32) h))
set_option maxHeartbeats 4000000 in
set_option maxRecDepth 100000 in
theorem r_X2_hasReading_b0 (v0 : Nat) (v1 : Int32) (h : Hp) {x : Cx} {r : Int32} (e : F_X2_hasReading_b0 v0 v1 h = some r) (hF : Fin9 M_X2_hasReading x (some .boolean) (some (.int r)) h) : V M_X2_hasReading x 0 0 [(0, .ref v0), (1, .int v1)] [] h 0 0 := by
  unfold F_X2_hasReading_b0 at e
  refine V_iload_n (pc := 0) (i := 1) dX2_hasReading_0 rfl rfl ?_
  refine V_if_lt (pc := 1) (tgt := 16) dX2_hasReading_1 (by decide) (fun c4 => ?_) (fun c4 => ?_)
  · rw [if_pos c4] at e
    exact V_pick [] rfl (r_X2_hasReading_b16 h e hF)
  · rw [if_neg c4] at e
    refine V_pick [0, 1] rfl ?_
    refine V_iload_n (pc := 4) (i := 1) dX2_hasReading_4 rfl rfl ?_
    refine V_aload_n (pc := 5) (i := 0) dX2_hasReading_5 rfl rfl ?_
    obtain ⟨g2, e⟩ := gd_some e
    refine V_getI (pc := 6) (ci := 2) (k := 17) dX2_hasReading_6 fl_X2_75 rfl (of_decide_eq_true g2) ?_
    refine V_icmp_ge (pc := 9) (tgt := 16) dX2_hasReading_9 (by decide) (fun c3 => ?_) (fun c3 => ?_)
    · rw [if_pos c3] at e
      exact V_pick [] rfl (r_X2_hasReading_b16 h e hF)
    · rw [if_neg c3] at e
      refine V_pick [] rfl ?_
      refine V_iconst (pc := 12) (v := (1 : Int32)) dX2_hasReading_12 (by decide) ?_
      refine V_goto (pc := 13) (tgt := 17) dX2_hasReading_13 (by decide) ?_
      exact V_pick [] rfl (r_X2_hasReading_b17 (1 : Int32) h e hF)
def F_X2_hasReading (v0 : Nat) (v1 : Int32) (h : Hp) : Option Int32 := F_X2_hasReading_b0 v0 v1 h
theorem c_X2_hasReading {l : Launch} (v0 : Nat) (v1 : Int32) (h : Hp) {r : Int32} (e : F_X2_hasReading v0 v1 h = some r) : Ct l yX2_hasReading M_X2_hasReading (some .boolean) 0 [.ref v0, .int v1] h 0 0 (some (.int r)) h :=
  Ct_of rfl rfl (fun q => by cases q) (Nat.le_of_ble_eq_true rfl) (fun x _ hF => V_pick [0, 1] rfl (r_X2_hasReading_b0 v0 v1 h e hF))
theorem dX2_addRoom_0 : decode cX2_addRoom 0 = .ok (.aload_n 0, 1) := by decide +kernel
theorem dX2_addRoom_1 : decode cX2_addRoom 1 = .ok (.getfield 9, 3) := by decide +kernel
theorem dX2_addRoom_4 : decode cX2_addRoom 4 = .ok (.bipush 8, 2) := by decide +kernel
theorem dX2_addRoom_6 : decode cX2_addRoom 6 = .ok (.if_icmp .ge 53, 3) := by decide +kernel
theorem dX2_addRoom_9 : decode cX2_addRoom 9 = .ok (.aload_n 0, 1) := by decide +kernel
theorem dX2_addRoom_10 : decode cX2_addRoom 10 = .ok (.getfield 15, 3) := by decide +kernel
theorem dX2_addRoom_13 : decode cX2_addRoom 13 = .ok (.aload_n 0, 1) := by decide +kernel
theorem dX2_addRoom_14 : decode cX2_addRoom 14 = .ok (.getfield 9, 3) := by decide +kernel
theorem dX2_addRoom_17 : decode cX2_addRoom 17 = .ok (.iload_n 1, 1) := by decide +kernel
theorem dX2_addRoom_18 : decode cX2_addRoom 18 = .ok (.iastore, 1) := by decide +kernel
theorem dX2_addRoom_19 : decode cX2_addRoom 19 = .ok (.aload_n 0, 1) := by decide +kernel
theorem dX2_addRoom_20 : decode cX2_addRoom 20 = .ok (.getfield 19, 3) := by decide +kernel
theorem dX2_addRoom_23 : decode cX2_addRoom 23 = .ok (.aload_n 0, 1) := by decide +kernel
theorem dX2_addRoom_24 : decode cX2_addRoom 24 = .ok (.getfield 9, 3) := by decide +kernel
theorem dX2_addRoom_27 : decode cX2_addRoom 27 = .ok (.iload_n 2, 1) := by decide +kernel
theorem dX2_addRoom_28 : decode cX2_addRoom 28 = .ok (.iastore, 1) := by decide +kernel
theorem dX2_addRoom_29 : decode cX2_addRoom 29 = .ok (.aload_n 0, 1) := by decide +kernel
theorem dX2_addRoom_30 : decode cX2_addRoom 30 = .ok (.getfield 22, 3) := by decide +kernel
theorem dX2_addRoom_33 : decode cX2_addRoom 33 = .ok (.aload_n 0, 1) := by decide +kernel
theorem dX2_addRoom_34 : decode cX2_addRoom 34 = .ok (.getfield 9, 3) := by decide +kernel
theorem dX2_addRoom_37 : decode cX2_addRoom 37 = .ok (.iload_n 3, 1) := by decide +kernel
theorem dX2_addRoom_38 : decode cX2_addRoom 38 = .ok (.iastore, 1) := by decide +kernel
theorem dX2_addRoom_39 : decode cX2_addRoom 39 = .ok (.aload_n 0, 1) := by decide +kernel
theorem dX2_addRoom_40 : decode cX2_addRoom 40 = .ok (.getfield 25, 3) := by decide +kernel
theorem dX2_addRoom_43 : decode cX2_addRoom 43 = .ok (.aload_n 0, 1) := by decide +kernel
theorem dX2_addRoom_44 : decode cX2_addRoom 44 = .ok (.getfield 9, 3) := by decide +kernel
theorem dX2_addRoom_47 : decode cX2_addRoom 47 = .ok (.iconst 0, 1) := by decide +kernel
theorem dX2_addRoom_48 : decode cX2_addRoom 48 = .ok (.iastore, 1) := by decide +kernel
theorem dX2_addRoom_49 : decode cX2_addRoom 49 = .ok (.aload_n 0, 1) := by decide +kernel
theorem dX2_addRoom_50 : decode cX2_addRoom 50 = .ok (.dup, 1) := by decide +kernel
theorem dX2_addRoom_51 : decode cX2_addRoom 51 = .ok (.getfield 9, 3) := by decide +kernel
theorem dX2_addRoom_54 : decode cX2_addRoom 54 = .ok (.iconst 1, 1) := by decide +kernel
theorem dX2_addRoom_55 : decode cX2_addRoom 55 = .ok (.iadd, 1) := by decide +kernel
theorem dX2_addRoom_56 : decode cX2_addRoom 56 = .ok (.putfield 9, 3) := by decide +kernel
theorem dX2_addRoom_59 : decode cX2_addRoom 59 = .ok (.return_, 1) := by decide +kernel
set_option maxRecDepth 100000 in
def F_X2_addRoom_b59  (h : Hp) : Option (Unit × Hp) :=
  some ((), h)
set_option maxHeartbeats 4000000 in
set_option maxRecDepth 100000 in
theorem r_X2_addRoom_b59  (h : Hp) {x : Cx} {r : Unit} {hz : Hp} (e : F_X2_addRoom_b59  h = some (r, hz)) (hF : Fin9 M_X2_addRoom x none none hz) : V M_X2_addRoom x 0 59 [] [] h 0 0 := by
  unfold F_X2_addRoom_b59 at e
  cases e
  exact V_vret (pc := 59) dX2_addRoom_59 hF
set_option maxRecDepth 100000 in
def F_X2_addRoom_b0 (v0 : Nat) (v1 : Int32) (v2 : Int32) (v3 : Int32) (h : Hp) : Option (Unit × Hp) :=
  gd (decide (kd h v0 = 2)) <| (if (8 : Int32) ≤ (zI h v0 0) then F_X2_addRoom_b59 h else ob (zR h v0 1) fun q2 => gd (decide (kd h q2 = 13)) <| gd (ix (zI h v0 0) (zl h q2)) <| ob (zR (setI h q2 (zI h v0 0).toNatClampNeg v1) v0 2) fun q6 => gd (decide (kd (setI h q2 (zI h v0 0).toNatClampNeg v1) q6 = 13)) <| gd (ix (zI (setI h q2 (zI h v0 0).toNatClampNeg v1) v0 0) (zl (setI h q2 (zI h v0 0).toNatClampNeg v1) q6)) <| ob (zR (setI (setI h q2 (zI h v0 0).toNatClampNeg v1) q6 (zI (setI h q2 (zI h v0 0).toNatClampNeg v1) v0 0).toNatClampNeg v2) v0 3) fun q10 => gd (decide (kd (setI (setI h q2 (zI h v0 0).toNatClampNeg v1) q6 (zI (setI h q2 (zI h v0 0).toNatClampNeg v1) v0 0).toNatClampNeg v2) q10 = 13)) <| gd (ix (zI (setI (setI h q2 (zI h v0 0).toNatClampNeg v1) q6 (zI (setI h q2 (zI h v0 0).toNatClampNeg v1) v0 0).toNatClampNeg v2) v0 0) (zl (setI (setI h q2 (zI h v0 0).toNatClampNeg v1) q6 (zI (setI h q2 (zI h v0 0).toNatClampNeg v1) v0 0).toNatClampNeg v2) q10)) <| ob (zR (setI (setI (setI h q2 (zI h v0 0).toNatClampNeg v1) q6 (zI (setI h q2 (zI h v0 0).toNatClampNeg v1) v0 0).toNatClampNeg v2) q10 (zI (setI (setI h q2 (zI h v0 0).toNatClampNeg v1) q6 (zI (setI h q2 (zI h v0 0).toNatClampNeg v1) v0 0).toNatClampNeg v2) v0 0).toNatClampNeg v3) v0 4) fun q14 => gd (decide (kd (setI (setI (setI h q2 (zI h v0 0).toNatClampNeg v1) q6 (zI (setI h q2 (zI h v0 0).toNatClampNeg v1) v0 0).toNatClampNeg v2) q10 (zI (setI (setI h q2 (zI h v0 0).toNatClampNeg v1) q6 (zI (setI h q2 (zI h v0 0).toNatClampNeg v1) v0 0).toNatClampNeg v2) v0 0).toNatClampNeg v3) q14 = 13)) <| gd (ix (zI (setI (setI (setI h q2 (zI h v0 0).toNatClampNeg v1) q6 (zI (setI h q2 (zI h v0 0).toNatClampNeg v1) v0 0).toNatClampNeg v2) q10 (zI (setI (setI h q2 (zI h v0 0).toNatClampNeg v1) q6 (zI (setI h q2 (zI h v0 0).toNatClampNeg v1) v0 0).toNatClampNeg v2) v0 0).toNatClampNeg v3) v0 0) (zl (setI (setI (setI h q2 (zI h v0 0).toNatClampNeg v1) q6 (zI (setI h q2 (zI h v0 0).toNatClampNeg v1) v0 0).toNatClampNeg v2) q10 (zI (setI (setI h q2 (zI h v0 0).toNatClampNeg v1) q6 (zI (setI h q2 (zI h v0 0).toNatClampNeg v1) v0 0).toNatClampNeg v2) v0 0).toNatClampNeg v3) q14)) <| F_X2_addRoom_b59 (setI (setI (setI (setI (setI h q2 (zI h v0 0).toNatClampNeg v1) q6 (zI (setI h q2 (zI h v0 0).toNatClampNeg v1) v0 0).toNatClampNeg v2) q10 (zI (setI (setI h q2 (zI h v0 0).toNatClampNeg v1) q6 (zI (setI h q2 (zI h v0 0).toNatClampNeg v1) v0 0).toNatClampNeg v2) v0 0).toNatClampNeg v3) q14 (zI (setI (setI (setI h q2 (zI h v0 0).toNatClampNeg v1) q6 (zI (setI h q2 (zI h v0 0).toNatClampNeg v1) v0 0).toNatClampNeg v2) q10 (zI (setI (setI h q2 (zI h v0 0).toNatClampNeg v1) q6 (zI (setI h q2 (zI h v0 0).toNatClampNeg v1) v0 0).toNatClampNeg v2) v0 0).toNatClampNeg v3) v0 0).toNatClampNeg (0 : Int32)) v0 0 ((zI (setI (setI (setI (setI h q2 (zI h v0 0).toNatClampNeg v1) q6 (zI (setI h q2 (zI h v0 0).toNatClampNeg v1) v0 0).toNatClampNeg v2) q10 (zI (setI (setI h q2 (zI h v0 0).toNatClampNeg v1) q6 (zI (setI h q2 (zI h v0 0).toNatClampNeg v1) v0 0).toNatClampNeg v2) v0 0).toNatClampNeg v3) q14 (zI (setI (setI (setI h q2 (zI h v0 0).toNatClampNeg v1) q6 (zI (setI h q2 (zI h v0 0).toNatClampNeg v1) v0 0).toNatClampNeg v2) q10 (zI (setI (setI h q2 (zI h v0 0).toNatClampNeg v1) q6 (zI (setI h q2 (zI h v0 0).toNatClampNeg v1) v0 0).toNatClampNeg v2) v0 0).toNatClampNeg v3) v0 0).toNatClampNeg (0 : Int32)) v0 0) + (1 : Int32))))
set_option maxHeartbeats 4000000 in
set_option maxRecDepth 100000 in
theorem r_X2_addRoom_b0 (v0 : Nat) (v1 : Int32) (v2 : Int32) (v3 : Int32) (h : Hp) {x : Cx} {r : Unit} {hz : Hp} (e : F_X2_addRoom_b0 v0 v1 v2 v3 h = some (r, hz)) (hF : Fin9 M_X2_addRoom x none none hz) : V M_X2_addRoom x 0 0 [(0, .ref v0), (1, .int v1), (2, .int v2), (3, .int v3)] [] h 0 0 := by
  unfold F_X2_addRoom_b0 at e
  refine V_aload_n (pc := 0) (i := 0) dX2_addRoom_0 rfl rfl ?_
  obtain ⟨g1, e⟩ := gd_some e
  refine V_getI (pc := 1) (ci := 2) (k := 0) dX2_addRoom_1 fl_X2_9 rfl (of_decide_eq_true g1) ?_
  refine V_bipush (pc := 4) (v := (8 : Int32)) dX2_addRoom_4 (by decide) ?_
  refine V_icmp_ge (pc := 6) (tgt := 59) dX2_addRoom_6 (by decide) (fun c18 => ?_) (fun c18 => ?_)
  · rw [if_pos c18] at e
    exact V_pick [] rfl (r_X2_addRoom_b59 h e hF)
  · rw [if_neg c18] at e
    refine V_pick [0, 1, 2, 3] rfl ?_
    refine V_aload_n (pc := 9) (i := 0) dX2_addRoom_9 rfl rfl ?_
    obtain ⟨q2, g3, e⟩ := ob_some e
    refine V_getR (pc := 10) (ci := 2) (k := 1) (b := q2) dX2_addRoom_10 fl_X2_15 rfl (of_decide_eq_true g1) g3 ?_
    refine V_aload_n (pc := 13) (i := 0) dX2_addRoom_13 rfl rfl ?_
    refine V_getI (pc := 14) (ci := 2) (k := 0) dX2_addRoom_14 fl_X2_9 rfl (of_decide_eq_true g1) ?_
    refine V_iload_n (pc := 17) (i := 1) dX2_addRoom_17 rfl rfl ?_
    obtain ⟨g4, e⟩ := gd_some e
    obtain ⟨g5, e⟩ := gd_some e
    refine V_iast (pc := 18) dX2_addRoom_18 (of_decide_eq_true g4) (ix_in g5) ?_
    refine V_aload_n (pc := 19) (i := 0) dX2_addRoom_19 rfl rfl ?_
    obtain ⟨q6, g7, e⟩ := ob_some e
    refine V_getR (pc := 20) (ci := 2) (k := 2) (b := q6) dX2_addRoom_20 fl_X2_19 rfl (of_decide_eq_true g1) g7 ?_
    refine V_aload_n (pc := 23) (i := 0) dX2_addRoom_23 rfl rfl ?_
    refine V_getI (pc := 24) (ci := 2) (k := 0) dX2_addRoom_24 fl_X2_9 rfl (of_decide_eq_true g1) ?_
    refine V_iload_n (pc := 27) (i := 2) dX2_addRoom_27 rfl rfl ?_
    obtain ⟨g8, e⟩ := gd_some e
    obtain ⟨g9, e⟩ := gd_some e
    refine V_iast (pc := 28) dX2_addRoom_28 (of_decide_eq_true g8) (ix_in g9) ?_
    refine V_aload_n (pc := 29) (i := 0) dX2_addRoom_29 rfl rfl ?_
    obtain ⟨q10, g11, e⟩ := ob_some e
    refine V_getR (pc := 30) (ci := 2) (k := 3) (b := q10) dX2_addRoom_30 fl_X2_22 rfl (of_decide_eq_true g1) g11 ?_
    refine V_aload_n (pc := 33) (i := 0) dX2_addRoom_33 rfl rfl ?_
    refine V_getI (pc := 34) (ci := 2) (k := 0) dX2_addRoom_34 fl_X2_9 rfl (of_decide_eq_true g1) ?_
    refine V_iload_n (pc := 37) (i := 3) dX2_addRoom_37 rfl rfl ?_
    obtain ⟨g12, e⟩ := gd_some e
    obtain ⟨g13, e⟩ := gd_some e
    refine V_iast (pc := 38) dX2_addRoom_38 (of_decide_eq_true g12) (ix_in g13) ?_
    refine V_aload_n (pc := 39) (i := 0) dX2_addRoom_39 rfl rfl ?_
    obtain ⟨q14, g15, e⟩ := ob_some e
    refine V_getR (pc := 40) (ci := 2) (k := 4) (b := q14) dX2_addRoom_40 fl_X2_25 rfl (of_decide_eq_true g1) g15 ?_
    refine V_aload_n (pc := 43) (i := 0) dX2_addRoom_43 rfl rfl ?_
    refine V_getI (pc := 44) (ci := 2) (k := 0) dX2_addRoom_44 fl_X2_9 rfl (of_decide_eq_true g1) ?_
    refine V_iconst (pc := 47) (v := (0 : Int32)) dX2_addRoom_47 (by decide) ?_
    obtain ⟨g16, e⟩ := gd_some e
    obtain ⟨g17, e⟩ := gd_some e
    refine V_iast (pc := 48) dX2_addRoom_48 (of_decide_eq_true g16) (ix_in g17) ?_
    refine V_aload_n (pc := 49) (i := 0) dX2_addRoom_49 rfl rfl ?_
    refine V_dup (pc := 50) dX2_addRoom_50 rfl ?_
    refine V_getI (pc := 51) (ci := 2) (k := 0) dX2_addRoom_51 fl_X2_9 rfl (of_decide_eq_true g1) ?_
    refine V_iconst (pc := 54) (v := (1 : Int32)) dX2_addRoom_54 (by decide) ?_
    refine V_iadd (pc := 55) dX2_addRoom_55 ?_
    refine V_putI (pc := 56) (ci := 2) (k := 0) dX2_addRoom_56 fp_X2_9 rfl (of_decide_eq_true g1) ?_
    exact V_pick [] rfl (r_X2_addRoom_b59 (setI (setI (setI (setI (setI h q2 (zI h v0 0).toNatClampNeg v1) q6 (zI (setI h q2 (zI h v0 0).toNatClampNeg v1) v0 0).toNatClampNeg v2) q10 (zI (setI (setI h q2 (zI h v0 0).toNatClampNeg v1) q6 (zI (setI h q2 (zI h v0 0).toNatClampNeg v1) v0 0).toNatClampNeg v2) v0 0).toNatClampNeg v3) q14 (zI (setI (setI (setI h q2 (zI h v0 0).toNatClampNeg v1) q6 (zI (setI h q2 (zI h v0 0).toNatClampNeg v1) v0 0).toNatClampNeg v2) q10 (zI (setI (setI h q2 (zI h v0 0).toNatClampNeg v1) q6 (zI (setI h q2 (zI h v0 0).toNatClampNeg v1) v0 0).toNatClampNeg v2) v0 0).toNatClampNeg v3) v0 0).toNatClampNeg (0 : Int32)) v0 0 ((zI (setI (setI (setI (setI h q2 (zI h v0 0).toNatClampNeg v1) q6 (zI (setI h q2 (zI h v0 0).toNatClampNeg v1) v0 0).toNatClampNeg v2) q10 (zI (setI (setI h q2 (zI h v0 0).toNatClampNeg v1) q6 (zI (setI h q2 (zI h v0 0).toNatClampNeg v1) v0 0).toNatClampNeg v2) v0 0).toNatClampNeg v3) q14 (zI (setI (setI (setI h q2 (zI h v0 0).toNatClampNeg v1) q6 (zI (setI h q2 (zI h v0 0).toNatClampNeg v1) v0 0).toNatClampNeg v2) q10 (zI (setI (setI h q2 (zI h v0 0).toNatClampNeg v1) q6 (zI (setI h q2 (zI h v0 0).toNatClampNeg v1) v0 0).toNatClampNeg v2) v0 0).toNatClampNeg v3) v0 0).toNatClampNeg (0 : Int32)) v0 0) + (1 : Int32))) e hF)
def F_X2_addRoom (v0 : Nat) (v1 : Int32) (v2 : Int32) (v3 : Int32) (h : Hp) : Option (Unit × Hp) := F_X2_addRoom_b0 v0 v1 v2 v3 h
theorem c_X2_addRoom {l : Launch} (v0 : Nat) (v1 : Int32) (v2 : Int32) (v3 : Int32) (h : Hp) {r : Unit} {hz : Hp} (e : F_X2_addRoom v0 v1 v2 v3 h = some (r, hz)) : Ct l yX2_addRoom M_X2_addRoom none 0 [.ref v0, .int v1, .int v2, .int v3] h 0 0 none hz :=
  Ct_of rfl rfl (fun q => by cases q) (Nat.le_of_ble_eq_true rfl) (fun x _ hF => V_pick [0, 1, 2, 3] rfl (r_X2_addRoom_b0 v0 v1 v2 v3 h e hF))
theorem dX2_addGuest_0 : decode cX2_addGuest 0 = .ok (.aload_n 0, 1) := by decide +kernel
theorem dX2_addGuest_1 : decode cX2_addGuest 1 = .ok (.getfield 28, 3) := by decide +kernel
theorem dX2_addGuest_4 : decode cX2_addGuest 4 = .ok (.iconst 5, 1) := by decide +kernel
theorem dX2_addGuest_5 : decode cX2_addGuest 5 = .ok (.if_icmp .ge 59, 3) := by decide +kernel
theorem dX2_addGuest_8 : decode cX2_addGuest 8 = .ok (.aload_n 0, 1) := by decide +kernel
theorem dX2_addGuest_9 : decode cX2_addGuest 9 = .ok (.getfield 31, 3) := by decide +kernel
theorem dX2_addGuest_12 : decode cX2_addGuest 12 = .ok (.aload_n 0, 1) := by decide +kernel
theorem dX2_addGuest_13 : decode cX2_addGuest 13 = .ok (.getfield 28, 3) := by decide +kernel
theorem dX2_addGuest_16 : decode cX2_addGuest 16 = .ok (.iload_n 1, 1) := by decide +kernel
theorem dX2_addGuest_17 : decode cX2_addGuest 17 = .ok (.iastore, 1) := by decide +kernel
theorem dX2_addGuest_18 : decode cX2_addGuest 18 = .ok (.aload_n 0, 1) := by decide +kernel
theorem dX2_addGuest_19 : decode cX2_addGuest 19 = .ok (.getfield 34, 3) := by decide +kernel
theorem dX2_addGuest_22 : decode cX2_addGuest 22 = .ok (.aload_n 0, 1) := by decide +kernel
theorem dX2_addGuest_23 : decode cX2_addGuest 23 = .ok (.getfield 28, 3) := by decide +kernel
theorem dX2_addGuest_26 : decode cX2_addGuest 26 = .ok (.iload_n 2, 1) := by decide +kernel
theorem dX2_addGuest_27 : decode cX2_addGuest 27 = .ok (.iastore, 1) := by decide +kernel
theorem dX2_addGuest_28 : decode cX2_addGuest 28 = .ok (.aload_n 0, 1) := by decide +kernel
theorem dX2_addGuest_29 : decode cX2_addGuest 29 = .ok (.getfield 39, 3) := by decide +kernel
theorem dX2_addGuest_32 : decode cX2_addGuest 32 = .ok (.aload_n 0, 1) := by decide +kernel
theorem dX2_addGuest_33 : decode cX2_addGuest 33 = .ok (.getfield 28, 3) := by decide +kernel
theorem dX2_addGuest_36 : decode cX2_addGuest 36 = .ok (.aaload, 1) := by decide +kernel
theorem dX2_addGuest_37 : decode cX2_addGuest 37 = .ok (.iconst 0, 1) := by decide +kernel
theorem dX2_addGuest_38 : decode cX2_addGuest 38 = .ok (.putfield 101, 3) := by decide +kernel
theorem dX2_addGuest_41 : decode cX2_addGuest 41 = .ok (.aload_n 0, 1) := by decide +kernel
theorem dX2_addGuest_42 : decode cX2_addGuest 42 = .ok (.getfield 39, 3) := by decide +kernel
theorem dX2_addGuest_45 : decode cX2_addGuest 45 = .ok (.aload_n 0, 1) := by decide +kernel
theorem dX2_addGuest_46 : decode cX2_addGuest 46 = .ok (.getfield 28, 3) := by decide +kernel
theorem dX2_addGuest_49 : decode cX2_addGuest 49 = .ok (.aaload, 1) := by decide +kernel
theorem dX2_addGuest_50 : decode cX2_addGuest 50 = .ok (.iconst 0, 1) := by decide +kernel
theorem dX2_addGuest_51 : decode cX2_addGuest 51 = .ok (.putfield 104, 3) := by decide +kernel
theorem dX2_addGuest_54 : decode cX2_addGuest 54 = .ok (.aload_n 0, 1) := by decide +kernel
theorem dX2_addGuest_55 : decode cX2_addGuest 55 = .ok (.dup, 1) := by decide +kernel
theorem dX2_addGuest_56 : decode cX2_addGuest 56 = .ok (.getfield 28, 3) := by decide +kernel
theorem dX2_addGuest_59 : decode cX2_addGuest 59 = .ok (.iconst 1, 1) := by decide +kernel
theorem dX2_addGuest_60 : decode cX2_addGuest 60 = .ok (.iadd, 1) := by decide +kernel
theorem dX2_addGuest_61 : decode cX2_addGuest 61 = .ok (.putfield 28, 3) := by decide +kernel
theorem dX2_addGuest_64 : decode cX2_addGuest 64 = .ok (.return_, 1) := by decide +kernel
set_option maxRecDepth 100000 in
def F_X2_addGuest_b64  (h : Hp) : Option (Unit × Hp) :=
  some ((), h)
set_option maxHeartbeats 4000000 in
set_option maxRecDepth 100000 in
theorem r_X2_addGuest_b64  (h : Hp) {x : Cx} {r : Unit} {hz : Hp} (e : F_X2_addGuest_b64  h = some (r, hz)) (hF : Fin9 M_X2_addGuest x none none hz) : V M_X2_addGuest x 0 64 [] [] h 0 0 := by
  unfold F_X2_addGuest_b64 at e
  cases e
  exact V_vret (pc := 64) dX2_addGuest_64 hF
set_option maxRecDepth 100000 in
def F_X2_addGuest_b0 (v0 : Nat) (v1 : Int32) (v2 : Int32) (h : Hp) : Option (Unit × Hp) :=
  gd (decide (kd h v0 = 2)) <| (if (5 : Int32) ≤ (zI h v0 5) then F_X2_addGuest_b64 h else ob (zR h v0 6) fun q2 => gd (decide (kd h q2 = 13)) <| gd (ix (zI h v0 5) (zl h q2)) <| ob (zR (setI h q2 (zI h v0 5).toNatClampNeg v1) v0 7) fun q6 => gd (decide (kd (setI h q2 (zI h v0 5).toNatClampNeg v1) q6 = 13)) <| gd (ix (zI (setI h q2 (zI h v0 5).toNatClampNeg v1) v0 5) (zl (setI h q2 (zI h v0 5).toNatClampNeg v1) q6)) <| ob (zR (setI (setI h q2 (zI h v0 5).toNatClampNeg v1) q6 (zI (setI h q2 (zI h v0 5).toNatClampNeg v1) v0 5).toNatClampNeg v2) v0 8) fun q10 => gd (decide (kd (setI (setI h q2 (zI h v0 5).toNatClampNeg v1) q6 (zI (setI h q2 (zI h v0 5).toNatClampNeg v1) v0 5).toNatClampNeg v2) q10 = 15)) <| gd (ix (zI (setI (setI h q2 (zI h v0 5).toNatClampNeg v1) q6 (zI (setI h q2 (zI h v0 5).toNatClampNeg v1) v0 5).toNatClampNeg v2) v0 5) (zl (setI (setI h q2 (zI h v0 5).toNatClampNeg v1) q6 (zI (setI h q2 (zI h v0 5).toNatClampNeg v1) v0 5).toNatClampNeg v2) q10)) <| ob (zR (setI (setI h q2 (zI h v0 5).toNatClampNeg v1) q6 (zI (setI h q2 (zI h v0 5).toNatClampNeg v1) v0 5).toNatClampNeg v2) q10 (zI (setI (setI h q2 (zI h v0 5).toNatClampNeg v1) q6 (zI (setI h q2 (zI h v0 5).toNatClampNeg v1) v0 5).toNatClampNeg v2) v0 5).toNatClampNeg) fun q14 => gd (decide (kd (setI (setI h q2 (zI h v0 5).toNatClampNeg v1) q6 (zI (setI h q2 (zI h v0 5).toNatClampNeg v1) v0 5).toNatClampNeg v2) q14 = 9)) <| ob (zR (setI (setI (setI h q2 (zI h v0 5).toNatClampNeg v1) q6 (zI (setI h q2 (zI h v0 5).toNatClampNeg v1) v0 5).toNatClampNeg v2) q14 0 (0 : Int32)) v0 8) fun q17 => gd (decide (kd (setI (setI (setI h q2 (zI h v0 5).toNatClampNeg v1) q6 (zI (setI h q2 (zI h v0 5).toNatClampNeg v1) v0 5).toNatClampNeg v2) q14 0 (0 : Int32)) q17 = 15)) <| gd (ix (zI (setI (setI (setI h q2 (zI h v0 5).toNatClampNeg v1) q6 (zI (setI h q2 (zI h v0 5).toNatClampNeg v1) v0 5).toNatClampNeg v2) q14 0 (0 : Int32)) v0 5) (zl (setI (setI (setI h q2 (zI h v0 5).toNatClampNeg v1) q6 (zI (setI h q2 (zI h v0 5).toNatClampNeg v1) v0 5).toNatClampNeg v2) q14 0 (0 : Int32)) q17)) <| ob (zR (setI (setI (setI h q2 (zI h v0 5).toNatClampNeg v1) q6 (zI (setI h q2 (zI h v0 5).toNatClampNeg v1) v0 5).toNatClampNeg v2) q14 0 (0 : Int32)) q17 (zI (setI (setI (setI h q2 (zI h v0 5).toNatClampNeg v1) q6 (zI (setI h q2 (zI h v0 5).toNatClampNeg v1) v0 5).toNatClampNeg v2) q14 0 (0 : Int32)) v0 5).toNatClampNeg) fun q21 => gd (decide (kd (setI (setI (setI h q2 (zI h v0 5).toNatClampNeg v1) q6 (zI (setI h q2 (zI h v0 5).toNatClampNeg v1) v0 5).toNatClampNeg v2) q14 0 (0 : Int32)) q21 = 9)) <| F_X2_addGuest_b64 (setI (setI (setI (setI (setI h q2 (zI h v0 5).toNatClampNeg v1) q6 (zI (setI h q2 (zI h v0 5).toNatClampNeg v1) v0 5).toNatClampNeg v2) q14 0 (0 : Int32)) q21 3 (0 : Int32)) v0 5 ((zI (setI (setI (setI (setI h q2 (zI h v0 5).toNatClampNeg v1) q6 (zI (setI h q2 (zI h v0 5).toNatClampNeg v1) v0 5).toNatClampNeg v2) q14 0 (0 : Int32)) q21 3 (0 : Int32)) v0 5) + (1 : Int32))))
set_option maxHeartbeats 4000000 in
set_option maxRecDepth 100000 in
theorem r_X2_addGuest_b0 (v0 : Nat) (v1 : Int32) (v2 : Int32) (h : Hp) {x : Cx} {r : Unit} {hz : Hp} (e : F_X2_addGuest_b0 v0 v1 v2 h = some (r, hz)) (hF : Fin9 M_X2_addGuest x none none hz) : V M_X2_addGuest x 0 0 [(0, .ref v0), (1, .int v1), (2, .int v2)] [] h 0 0 := by
  unfold F_X2_addGuest_b0 at e
  refine V_aload_n (pc := 0) (i := 0) dX2_addGuest_0 rfl rfl ?_
  obtain ⟨g1, e⟩ := gd_some e
  refine V_getI (pc := 1) (ci := 2) (k := 5) dX2_addGuest_1 fl_X2_28 rfl (of_decide_eq_true g1) ?_
  refine V_iconst (pc := 4) (v := (5 : Int32)) dX2_addGuest_4 (by decide) ?_
  refine V_icmp_ge (pc := 5) (tgt := 64) dX2_addGuest_5 (by decide) (fun c24 => ?_) (fun c24 => ?_)
  · rw [if_pos c24] at e
    exact V_pick [] rfl (r_X2_addGuest_b64 h e hF)
  · rw [if_neg c24] at e
    refine V_pick [0, 1, 2] rfl ?_
    refine V_aload_n (pc := 8) (i := 0) dX2_addGuest_8 rfl rfl ?_
    obtain ⟨q2, g3, e⟩ := ob_some e
    refine V_getR (pc := 9) (ci := 2) (k := 6) (b := q2) dX2_addGuest_9 fl_X2_31 rfl (of_decide_eq_true g1) g3 ?_
    refine V_aload_n (pc := 12) (i := 0) dX2_addGuest_12 rfl rfl ?_
    refine V_getI (pc := 13) (ci := 2) (k := 5) dX2_addGuest_13 fl_X2_28 rfl (of_decide_eq_true g1) ?_
    refine V_iload_n (pc := 16) (i := 1) dX2_addGuest_16 rfl rfl ?_
    obtain ⟨g4, e⟩ := gd_some e
    obtain ⟨g5, e⟩ := gd_some e
    refine V_iast (pc := 17) dX2_addGuest_17 (of_decide_eq_true g4) (ix_in g5) ?_
    refine V_aload_n (pc := 18) (i := 0) dX2_addGuest_18 rfl rfl ?_
    obtain ⟨q6, g7, e⟩ := ob_some e
    refine V_getR (pc := 19) (ci := 2) (k := 7) (b := q6) dX2_addGuest_19 fl_X2_34 rfl (of_decide_eq_true g1) g7 ?_
    refine V_aload_n (pc := 22) (i := 0) dX2_addGuest_22 rfl rfl ?_
    refine V_getI (pc := 23) (ci := 2) (k := 5) dX2_addGuest_23 fl_X2_28 rfl (of_decide_eq_true g1) ?_
    refine V_iload_n (pc := 26) (i := 2) dX2_addGuest_26 rfl rfl ?_
    obtain ⟨g8, e⟩ := gd_some e
    obtain ⟨g9, e⟩ := gd_some e
    refine V_iast (pc := 27) dX2_addGuest_27 (of_decide_eq_true g8) (ix_in g9) ?_
    refine V_aload_n (pc := 28) (i := 0) dX2_addGuest_28 rfl rfl ?_
    obtain ⟨q10, g11, e⟩ := ob_some e
    refine V_getR (pc := 29) (ci := 2) (k := 8) (b := q10) dX2_addGuest_29 fl_X2_39 rfl (of_decide_eq_true g1) g11 ?_
    refine V_aload_n (pc := 32) (i := 0) dX2_addGuest_32 rfl rfl ?_
    refine V_getI (pc := 33) (ci := 2) (k := 5) dX2_addGuest_33 fl_X2_28 rfl (of_decide_eq_true g1) ?_
    obtain ⟨g12, e⟩ := gd_some e
    obtain ⟨g13, e⟩ := gd_some e
    obtain ⟨q14, g15, e⟩ := ob_some e
    refine V_aald (pc := 36) (b := q14) dX2_addGuest_36 (of_decide_eq_true g12) (ix_in g13) g15 ?_
    refine V_iconst (pc := 37) (v := (0 : Int32)) dX2_addGuest_37 (by decide) ?_
    obtain ⟨g16, e⟩ := gd_some e
    refine V_putI (pc := 38) (ci := 9) (k := 0) dX2_addGuest_38 fp_X2_101 rfl (of_decide_eq_true g16) ?_
    refine V_aload_n (pc := 41) (i := 0) dX2_addGuest_41 rfl rfl ?_
    obtain ⟨q17, g18, e⟩ := ob_some e
    refine V_getR (pc := 42) (ci := 2) (k := 8) (b := q17) dX2_addGuest_42 fl_X2_39 rfl (of_decide_eq_true g1) g18 ?_
    refine V_aload_n (pc := 45) (i := 0) dX2_addGuest_45 rfl rfl ?_
    refine V_getI (pc := 46) (ci := 2) (k := 5) dX2_addGuest_46 fl_X2_28 rfl (of_decide_eq_true g1) ?_
    obtain ⟨g19, e⟩ := gd_some e
    obtain ⟨g20, e⟩ := gd_some e
    obtain ⟨q21, g22, e⟩ := ob_some e
    refine V_aald (pc := 49) (b := q21) dX2_addGuest_49 (of_decide_eq_true g19) (ix_in g20) g22 ?_
    refine V_iconst (pc := 50) (v := (0 : Int32)) dX2_addGuest_50 (by decide) ?_
    obtain ⟨g23, e⟩ := gd_some e
    refine V_putI (pc := 51) (ci := 9) (k := 3) dX2_addGuest_51 fp_X2_104 rfl (of_decide_eq_true g23) ?_
    refine V_aload_n (pc := 54) (i := 0) dX2_addGuest_54 rfl rfl ?_
    refine V_dup (pc := 55) dX2_addGuest_55 rfl ?_
    refine V_getI (pc := 56) (ci := 2) (k := 5) dX2_addGuest_56 fl_X2_28 rfl (of_decide_eq_true g1) ?_
    refine V_iconst (pc := 59) (v := (1 : Int32)) dX2_addGuest_59 (by decide) ?_
    refine V_iadd (pc := 60) dX2_addGuest_60 ?_
    refine V_putI (pc := 61) (ci := 2) (k := 5) dX2_addGuest_61 fp_X2_28 rfl (of_decide_eq_true g1) ?_
    exact V_pick [] rfl (r_X2_addGuest_b64 (setI (setI (setI (setI (setI h q2 (zI h v0 5).toNatClampNeg v1) q6 (zI (setI h q2 (zI h v0 5).toNatClampNeg v1) v0 5).toNatClampNeg v2) q14 0 (0 : Int32)) q21 3 (0 : Int32)) v0 5 ((zI (setI (setI (setI (setI h q2 (zI h v0 5).toNatClampNeg v1) q6 (zI (setI h q2 (zI h v0 5).toNatClampNeg v1) v0 5).toNatClampNeg v2) q14 0 (0 : Int32)) q21 3 (0 : Int32)) v0 5) + (1 : Int32))) e hF)
def F_X2_addGuest (v0 : Nat) (v1 : Int32) (v2 : Int32) (h : Hp) : Option (Unit × Hp) := F_X2_addGuest_b0 v0 v1 v2 h
theorem c_X2_addGuest {l : Launch} (v0 : Nat) (v1 : Int32) (v2 : Int32) (h : Hp) {r : Unit} {hz : Hp} (e : F_X2_addGuest v0 v1 v2 h = some (r, hz)) : Ct l yX2_addGuest M_X2_addGuest none 0 [.ref v0, .int v1, .int v2] h 0 0 none hz :=
  Ct_of rfl rfl (fun q => by cases q) (Nat.le_of_ble_eq_true rfl) (fun x _ hF => V_pick [0, 1, 2] rfl (r_X2_addGuest_b0 v0 v1 v2 h e hF))
theorem dX2_farOf_0 : decode cX2_farOf 0 = .ok (.aload_n 0, 1) := by decide +kernel
theorem dX2_farOf_1 : decode cX2_farOf 1 = .ok (.getfield 15, 3) := by decide +kernel
theorem dX2_farOf_4 : decode cX2_farOf 4 = .ok (.iload_n 1, 1) := by decide +kernel
theorem dX2_farOf_5 : decode cX2_farOf 5 = .ok (.iaload, 1) := by decide +kernel
theorem dX2_farOf_6 : decode cX2_farOf 6 = .ok (.invokestatic 107, 3) := by decide +kernel
theorem dX2_farOf_9 : decode cX2_farOf 9 = .ok (.aload_n 0, 1) := by decide +kernel
theorem dX2_farOf_10 : decode cX2_farOf 10 = .ok (.getfield 19, 3) := by decide +kernel
theorem dX2_farOf_13 : decode cX2_farOf 13 = .ok (.iload_n 1, 1) := by decide +kernel
theorem dX2_farOf_14 : decode cX2_farOf 14 = .ok (.iaload, 1) := by decide +kernel
theorem dX2_farOf_15 : decode cX2_farOf 15 = .ok (.invokestatic 107, 3) := by decide +kernel
theorem dX2_farOf_18 : decode cX2_farOf 18 = .ok (.iadd, 1) := by decide +kernel
theorem dX2_farOf_19 : decode cX2_farOf 19 = .ok (.ireturn, 1) := by decide +kernel
set_option maxRecDepth 100000 in
def F_X2_farOf_b0 (v0 : Nat) (v1 : Int32) (h : Hp) : Option Int32 :=
  gd (decide (kd h v0 = 2)) <| ob (zR h v0 1) fun q2 => gd (decide (kd h q2 = 13)) <| gd (ix v1 (zl h q2)) <| ob (zR h v0 2) fun q6 => gd (decide (kd h q6 = 13)) <| gd (ix v1 (zl h q6)) <| some ((jabs (zI h q2 (v1).toNatClampNeg)) + (jabs (zI h q6 (v1).toNatClampNeg)))
set_option maxHeartbeats 4000000 in
set_option maxRecDepth 100000 in
theorem r_X2_farOf_b0 (v0 : Nat) (v1 : Int32) (h : Hp) {x : Cx} {r : Int32} (e : F_X2_farOf_b0 v0 v1 h = some r) (hF : Fin9 M_X2_farOf x (some .int) (some (.int r)) h) : V M_X2_farOf x 1 0 [(0, .ref v0), (1, .int v1)] [] h 0 0 := by
  unfold F_X2_farOf_b0 at e
  refine V_aload_n (pc := 0) (i := 0) dX2_farOf_0 rfl rfl ?_
  obtain ⟨g1, e⟩ := gd_some e
  obtain ⟨q2, g3, e⟩ := ob_some e
  refine V_getR (pc := 1) (ci := 2) (k := 1) (b := q2) dX2_farOf_1 fl_X2_15 rfl (of_decide_eq_true g1) g3 ?_
  refine V_iload_n (pc := 4) (i := 1) dX2_farOf_4 rfl rfl ?_
  obtain ⟨g4, e⟩ := gd_some e
  obtain ⟨g5, e⟩ := gd_some e
  refine V_iald (pc := 5) dX2_farOf_5 (of_decide_eq_true g4) (ix_in g5) ?_
  refine V_abs (pc := 6) dX2_farOf_6 wm_X2_107 (by decide) (Nat.le_of_ble_eq_true rfl) ?_
  refine V_aload_n (pc := 9) (i := 0) dX2_farOf_9 rfl rfl ?_
  obtain ⟨q6, g7, e⟩ := ob_some e
  refine V_getR (pc := 10) (ci := 2) (k := 2) (b := q6) dX2_farOf_10 fl_X2_19 rfl (of_decide_eq_true g1) g7 ?_
  refine V_iload_n (pc := 13) (i := 1) dX2_farOf_13 rfl rfl ?_
  obtain ⟨g8, e⟩ := gd_some e
  obtain ⟨g9, e⟩ := gd_some e
  refine V_iald (pc := 14) dX2_farOf_14 (of_decide_eq_true g8) (ix_in g9) ?_
  refine V_abs (pc := 15) dX2_farOf_15 wm_X2_107 (by decide) (Nat.le_of_ble_eq_true rfl) ?_
  refine V_iadd (pc := 18) dX2_farOf_18 ?_
  cases e
  exact V_iret (pc := 19) dX2_farOf_19 hF
def F_X2_farOf (v0 : Nat) (v1 : Int32) (h : Hp) : Option Int32 := F_X2_farOf_b0 v0 v1 h
theorem c_X2_farOf {l : Launch} (v0 : Nat) (v1 : Int32) (h : Hp) {r : Int32} (e : F_X2_farOf v0 v1 h = some r) : Ct l yX2_farOf M_X2_farOf (some .int) 1 [.ref v0, .int v1] h 0 0 (some (.int r)) h :=
  Ct_of rfl rfl (fun q => by cases q) (Nat.le_of_ble_eq_true rfl) (fun x _ hF => V_pick [0, 1] rfl (r_X2_farOf_b0 v0 v1 h e hF))
theorem dX2_headsIn_0 : decode cX2_headsIn 0 = .ok (.iconst 0, 1) := by decide +kernel
theorem dX2_headsIn_1 : decode cX2_headsIn 1 = .ok (.istore_n 3, 1) := by decide +kernel
theorem dX2_headsIn_2 : decode cX2_headsIn 2 = .ok (.iconst 0, 1) := by decide +kernel
theorem dX2_headsIn_3 : decode cX2_headsIn 3 = .ok (.istore 4, 2) := by decide +kernel
theorem dX2_headsIn_5 : decode cX2_headsIn 5 = .ok (.iload 4, 2) := by decide +kernel
theorem dX2_headsIn_7 : decode cX2_headsIn 7 = .ok (.aload_n 0, 1) := by decide +kernel
theorem dX2_headsIn_8 : decode cX2_headsIn 8 = .ok (.getfield 28, 3) := by decide +kernel
theorem dX2_headsIn_11 : decode cX2_headsIn 11 = .ok (.if_icmp .ge 20, 3) := by decide +kernel
theorem dX2_headsIn_14 : decode cX2_headsIn 14 = .ok (.aload_n 2, 1) := by decide +kernel
theorem dX2_headsIn_15 : decode cX2_headsIn 15 = .ok (.iload 4, 2) := by decide +kernel
theorem dX2_headsIn_17 : decode cX2_headsIn 17 = .ok (.iaload, 1) := by decide +kernel
theorem dX2_headsIn_18 : decode cX2_headsIn 18 = .ok (.iload_n 1, 1) := by decide +kernel
theorem dX2_headsIn_19 : decode cX2_headsIn 19 = .ok (.if_icmp .ne 6, 3) := by decide +kernel
theorem dX2_headsIn_22 : decode cX2_headsIn 22 = .ok (.iinc 3 1, 3) := by decide +kernel
theorem dX2_headsIn_25 : decode cX2_headsIn 25 = .ok (.iinc 4 1, 3) := by decide +kernel
theorem dX2_headsIn_28 : decode cX2_headsIn 28 = .ok (.goto (-23), 3) := by decide +kernel
theorem dX2_headsIn_31 : decode cX2_headsIn 31 = .ok (.iload_n 3, 1) := by decide +kernel
theorem dX2_headsIn_32 : decode cX2_headsIn 32 = .ok (.ireturn, 1) := by decide +kernel
set_option maxRecDepth 100000 in
def F_X2_headsIn_b25 (v0 : Nat) (v1 : Int32) (v2 : Nat) (v3 : Int32) (v4 : Int32) (h : Hp) : Option ((Int32 × Int32) ⊕ Int32) :=
  some (.inl (v3, v4 + (1 : Int32)))
set_option maxHeartbeats 4000000 in
set_option maxRecDepth 100000 in
theorem r_X2_headsIn_b25 (v0 : Nat) (v1 : Int32) (v2 : Nat) (v3 : Int32) (v4 : Int32) (h : Hp) {x : Cx} {o : ((Int32 × Int32) ⊕ Int32)} (e : F_X2_headsIn_b25 v0 v1 v2 v3 v4 h = some o) (kI : ∀ z, o = .inl z → V M_X2_headsIn x 0 5 [(0, .ref v0), (1, .int v1), (2, .ref v2), (3, .int z.1), (4, .int z.2)] [] h 0 0) (kE31 : ∀ z : Int32, o = .inr z → V M_X2_headsIn x 0 31 [(3, .int z)] [] h 0 0) : V M_X2_headsIn x 0 25 [(0, .ref v0), (1, .int v1), (2, .ref v2), (3, .int v3), (4, .int v4)] [] h 0 0 := by
  unfold F_X2_headsIn_b25 at e
  refine V_iinc (pc := 25) (i := 4) (u := v4 + (1 : Int32)) (lv' := [(4, .int (v4 + (1 : Int32))), (0, .ref v0), (1, .int v1), (2, .ref v2), (3, .int v3)]) dX2_headsIn_25 rfl rfl (by decide) rfl ?_
  refine V_goto (pc := 28) (tgt := 5) dX2_headsIn_28 (by decide) ?_
  cases e
  exact V_pick [1, 2, 3, 4, 0] rfl (kI _ rfl)
set_option maxRecDepth 100000 in
def F_X2_headsIn_l5 (v0 : Nat) (v1 : Int32) (v2 : Nat) (v3 : Int32) (v4 : Int32) (h : Hp) : Option ((Int32 × Int32) ⊕ Int32) :=
  gd (decide (kd h v0 = 2)) <| (if (zI h v0 5) ≤ v4 then some (.inr v3) else gd (decide (kd h v2 = 13)) <| gd (ix v4 (zl h v2)) <| (if (zI h v2 (v4).toNatClampNeg) = v1 then F_X2_headsIn_b25 v0 v1 v2 (v3 + (1 : Int32)) v4 h else F_X2_headsIn_b25 v0 v1 v2 v3 v4 h))
set_option maxHeartbeats 4000000 in
set_option maxRecDepth 100000 in
theorem r_X2_headsIn_l5 (v0 : Nat) (v1 : Int32) (v2 : Nat) (v3 : Int32) (v4 : Int32) (h : Hp) {x : Cx} {o : ((Int32 × Int32) ⊕ Int32)} (e : F_X2_headsIn_l5 v0 v1 v2 v3 v4 h = some o) (kI : ∀ z, o = .inl z → V M_X2_headsIn x 0 5 [(0, .ref v0), (1, .int v1), (2, .ref v2), (3, .int z.1), (4, .int z.2)] [] h 0 0) (kE31 : ∀ z : Int32, o = .inr z → V M_X2_headsIn x 0 31 [(3, .int z)] [] h 0 0) : V M_X2_headsIn x 0 5 [(0, .ref v0), (1, .int v1), (2, .ref v2), (3, .int v3), (4, .int v4)] [] h 0 0 := by
  unfold F_X2_headsIn_l5 at e
  refine V_iload (pc := 5) (i := 4) dX2_headsIn_5 rfl ?_
  refine V_aload_n (pc := 7) (i := 0) dX2_headsIn_7 rfl rfl ?_
  obtain ⟨g1, e⟩ := gd_some e
  refine V_getI (pc := 8) (ci := 2) (k := 5) dX2_headsIn_8 fl_X2_28 rfl (of_decide_eq_true g1) ?_
  refine V_icmp_ge (pc := 11) (tgt := 31) dX2_headsIn_11 (by decide) (fun c5 => ?_) (fun c5 => ?_)
  · rw [if_pos c5] at e
    cases e
    exact V_pick [3] rfl (kE31 _ rfl)
  · rw [if_neg c5] at e
    refine V_pick [0, 1, 2, 3, 4] rfl ?_
    refine V_aload_n (pc := 14) (i := 2) dX2_headsIn_14 rfl rfl ?_
    refine V_iload (pc := 15) (i := 4) dX2_headsIn_15 rfl ?_
    obtain ⟨g2, e⟩ := gd_some e
    obtain ⟨g3, e⟩ := gd_some e
    refine V_iald (pc := 17) dX2_headsIn_17 (of_decide_eq_true g2) (ix_in g3) ?_
    refine V_iload_n (pc := 18) (i := 1) dX2_headsIn_18 rfl rfl ?_
    refine V_icmp_ne (pc := 19) (tgt := 25) dX2_headsIn_19 (by decide) (fun c4 => ?_) (fun c4 => ?_)
    · rw [if_neg c4] at e
      exact V_pick [0, 1, 2, 3, 4] rfl (r_X2_headsIn_b25 v0 v1 v2 v3 v4 h e kI kE31)
    · rw [if_pos c4] at e
      refine V_pick [0, 1, 2, 3, 4] rfl ?_
      refine V_iinc (pc := 22) (i := 3) (u := v3 + (1 : Int32)) (lv' := [(3, .int (v3 + (1 : Int32))), (0, .ref v0), (1, .int v1), (2, .ref v2), (4, .int v4)]) dX2_headsIn_22 rfl rfl (by decide) rfl ?_
      exact V_pick [1, 2, 3, 0, 4] rfl (r_X2_headsIn_b25 v0 v1 v2 (v3 + (1 : Int32)) v4 h e kI kE31)
set_option maxRecDepth 100000 in
def F_X2_headsIn_b0 (v0 : Nat) (v1 : Int32) (v2 : Nat) (h : Hp) : Option Int32 :=
  ob (iter (fun z : Int32 × Int32 => F_X2_headsIn_l5 v0 v1 v2 z.1 z.2 h) FU ((0 : Int32), (0 : Int32))) (fun w6 => some w6)
set_option maxHeartbeats 4000000 in
set_option maxRecDepth 100000 in
theorem r_X2_headsIn_b0 (v0 : Nat) (v1 : Int32) (v2 : Nat) (h : Hp) {x : Cx} {r : Int32} (e : F_X2_headsIn_b0 v0 v1 v2 h = some r) (hF : Fin9 M_X2_headsIn x (some .int) (some (.int r)) h) : V M_X2_headsIn x 0 0 [(0, .ref v0), (1, .int v1), (2, .ref v2)] [] h 0 0 := by
  unfold F_X2_headsIn_b0 at e
  refine V_iconst (pc := 0) (v := (0 : Int32)) dX2_headsIn_0 (by decide) ?_
  refine V_istore_n (pc := 1) (i := 3) (lv' := [(3, .int (0 : Int32)), (0, .ref v0), (1, .int v1), (2, .ref v2)]) dX2_headsIn_1 rfl (by decide) rfl ?_
  refine V_iconst (pc := 2) (v := (0 : Int32)) dX2_headsIn_2 (by decide) ?_
  refine V_istore (pc := 3) (i := 4) (lv' := [(4, .int (0 : Int32)), (3, .int (0 : Int32)), (0, .ref v0), (1, .int v1), (2, .ref v2)]) dX2_headsIn_3 (by decide) rfl ?_
  refine V_pick [2, 3, 4, 1, 0] rfl ?_
  obtain ⟨y7, g8, e⟩ := ob_some e
  refine iter_V (P := fun z : Int32 × Int32 => V M_X2_headsIn x 0 5 [(0, .ref v0), (1, .int v1), (2, .ref v2), (3, .int z.1), (4, .int z.2)] [] h 0 0) (E := fun z : Int32 => V M_X2_headsIn x 0 31 [(3, .int z)] [] h 0 0) (fun z o e9 k1 k2 => r_X2_headsIn_l5 v0 v1 v2 z.1 z.2 h e9 (fun z hz9 => k1 z hz9) (fun z hz9 => k2 _ hz9)) _ _ _ g8 ?_
  clear g8
  obtain ⟨w6, rfl⟩ : ∃ q, q = y7 := ⟨_, rfl⟩
  replace e : (some w6) = some r := e
  show V M_X2_headsIn x 0 31 [(3, .int w6)] [] h 0 0
  refine V_iload_n (pc := 31) (i := 3) dX2_headsIn_31 rfl rfl ?_
  cases e
  exact V_iret (pc := 32) dX2_headsIn_32 hF
def F_X2_headsIn (v0 : Nat) (v1 : Int32) (v2 : Nat) (h : Hp) : Option Int32 := F_X2_headsIn_b0 v0 v1 v2 h
theorem c_X2_headsIn {l : Launch} (v0 : Nat) (v1 : Int32) (v2 : Nat) (h : Hp) {r : Int32} (e : F_X2_headsIn v0 v1 v2 h = some r) : Ct l yX2_headsIn M_X2_headsIn (some .int) 0 [.ref v0, .int v1, .ref v2] h 0 0 (some (.int r)) h :=
  Ct_of rfl rfl (fun q => by cases q) (Nat.le_of_ble_eq_true rfl) (fun x _ hF => V_pick [0, 1, 2] rfl (r_X2_headsIn_b0 v0 v1 v2 h e hF))
theorem dX2_snowOfAll_0 : decode cX2_snowOfAll 0 = .ok (.iconst 0, 1) := by decide +kernel
theorem dX2_snowOfAll_1 : decode cX2_snowOfAll 1 = .ok (.istore_n 1, 1) := by decide +kernel
theorem dX2_snowOfAll_2 : decode cX2_snowOfAll 2 = .ok (.iconst 0, 1) := by decide +kernel
theorem dX2_snowOfAll_3 : decode cX2_snowOfAll 3 = .ok (.istore_n 2, 1) := by decide +kernel
theorem dX2_snowOfAll_4 : decode cX2_snowOfAll 4 = .ok (.iload_n 2, 1) := by decide +kernel
theorem dX2_snowOfAll_5 : decode cX2_snowOfAll 5 = .ok (.aload_n 0, 1) := by decide +kernel
theorem dX2_snowOfAll_6 : decode cX2_snowOfAll 6 = .ok (.getfield 9, 3) := by decide +kernel
theorem dX2_snowOfAll_9 : decode cX2_snowOfAll 9 = .ok (.if_icmp .ge 18, 3) := by decide +kernel
theorem dX2_snowOfAll_12 : decode cX2_snowOfAll 12 = .ok (.iload_n 1, 1) := by decide +kernel
theorem dX2_snowOfAll_13 : decode cX2_snowOfAll 13 = .ok (.aload_n 0, 1) := by decide +kernel
theorem dX2_snowOfAll_14 : decode cX2_snowOfAll 14 = .ok (.getfield 25, 3) := by decide +kernel
theorem dX2_snowOfAll_17 : decode cX2_snowOfAll 17 = .ok (.iload_n 2, 1) := by decide +kernel
theorem dX2_snowOfAll_18 : decode cX2_snowOfAll 18 = .ok (.iaload, 1) := by decide +kernel
theorem dX2_snowOfAll_19 : decode cX2_snowOfAll 19 = .ok (.iadd, 1) := by decide +kernel
theorem dX2_snowOfAll_20 : decode cX2_snowOfAll 20 = .ok (.istore_n 1, 1) := by decide +kernel
theorem dX2_snowOfAll_21 : decode cX2_snowOfAll 21 = .ok (.iinc 2 1, 3) := by decide +kernel
theorem dX2_snowOfAll_24 : decode cX2_snowOfAll 24 = .ok (.goto (-20), 3) := by decide +kernel
theorem dX2_snowOfAll_27 : decode cX2_snowOfAll 27 = .ok (.iload_n 1, 1) := by decide +kernel
theorem dX2_snowOfAll_28 : decode cX2_snowOfAll 28 = .ok (.ireturn, 1) := by decide +kernel
set_option maxRecDepth 100000 in
def F_X2_snowOfAll_l4 (v0 : Nat) (v1 : Int32) (v2 : Int32) (h : Hp) : Option ((Int32 × Int32) ⊕ Int32) :=
  gd (decide (kd h v0 = 2)) <| (if (zI h v0 0) ≤ v2 then some (.inr v1) else ob (zR h v0 4) fun q2 => gd (decide (kd h q2 = 13)) <| gd (ix v2 (zl h q2)) <| some (.inl (v1 + (zI h q2 (v2).toNatClampNeg), v2 + (1 : Int32))))
set_option maxHeartbeats 4000000 in
set_option maxRecDepth 100000 in
theorem r_X2_snowOfAll_l4 (v0 : Nat) (v1 : Int32) (v2 : Int32) (h : Hp) {x : Cx} {o : ((Int32 × Int32) ⊕ Int32)} (e : F_X2_snowOfAll_l4 v0 v1 v2 h = some o) (kI : ∀ z, o = .inl z → V M_X2_snowOfAll x 0 4 [(0, .ref v0), (1, .int z.1), (2, .int z.2)] [] h 0 0) (kE27 : ∀ z : Int32, o = .inr z → V M_X2_snowOfAll x 0 27 [(1, .int z)] [] h 0 0) : V M_X2_snowOfAll x 0 4 [(0, .ref v0), (1, .int v1), (2, .int v2)] [] h 0 0 := by
  unfold F_X2_snowOfAll_l4 at e
  refine V_iload_n (pc := 4) (i := 2) dX2_snowOfAll_4 rfl rfl ?_
  refine V_aload_n (pc := 5) (i := 0) dX2_snowOfAll_5 rfl rfl ?_
  obtain ⟨g1, e⟩ := gd_some e
  refine V_getI (pc := 6) (ci := 2) (k := 0) dX2_snowOfAll_6 fl_X2_9 rfl (of_decide_eq_true g1) ?_
  refine V_icmp_ge (pc := 9) (tgt := 27) dX2_snowOfAll_9 (by decide) (fun c6 => ?_) (fun c6 => ?_)
  · rw [if_pos c6] at e
    cases e
    exact V_pick [1] rfl (kE27 _ rfl)
  · rw [if_neg c6] at e
    refine V_pick [0, 1, 2] rfl ?_
    refine V_iload_n (pc := 12) (i := 1) dX2_snowOfAll_12 rfl rfl ?_
    refine V_aload_n (pc := 13) (i := 0) dX2_snowOfAll_13 rfl rfl ?_
    obtain ⟨q2, g3, e⟩ := ob_some e
    refine V_getR (pc := 14) (ci := 2) (k := 4) (b := q2) dX2_snowOfAll_14 fl_X2_25 rfl (of_decide_eq_true g1) g3 ?_
    refine V_iload_n (pc := 17) (i := 2) dX2_snowOfAll_17 rfl rfl ?_
    obtain ⟨g4, e⟩ := gd_some e
    obtain ⟨g5, e⟩ := gd_some e
    refine V_iald (pc := 18) dX2_snowOfAll_18 (of_decide_eq_true g4) (ix_in g5) ?_
    refine V_iadd (pc := 19) dX2_snowOfAll_19 ?_
    refine V_istore_n (pc := 20) (i := 1) (lv' := [(1, .int (v1 + (zI h q2 (v2).toNatClampNeg))), (0, .ref v0), (2, .int v2)]) dX2_snowOfAll_20 rfl (by decide) rfl ?_
    refine V_iinc (pc := 21) (i := 2) (u := v2 + (1 : Int32)) (lv' := [(2, .int (v2 + (1 : Int32))), (1, .int (v1 + (zI h q2 (v2).toNatClampNeg))), (0, .ref v0)]) dX2_snowOfAll_21 rfl rfl (by decide) rfl ?_
    refine V_goto (pc := 24) (tgt := 4) dX2_snowOfAll_24 (by decide) ?_
    cases e
    exact V_pick [2, 1, 0] rfl (kI _ rfl)
set_option maxRecDepth 100000 in
def F_X2_snowOfAll_b0 (v0 : Nat) (h : Hp) : Option Int32 :=
  ob (iter (fun z : Int32 × Int32 => F_X2_snowOfAll_l4 v0 z.1 z.2 h) FU ((0 : Int32), (0 : Int32))) (fun w7 => some w7)
set_option maxHeartbeats 4000000 in
set_option maxRecDepth 100000 in
theorem r_X2_snowOfAll_b0 (v0 : Nat) (h : Hp) {x : Cx} {r : Int32} (e : F_X2_snowOfAll_b0 v0 h = some r) (hF : Fin9 M_X2_snowOfAll x (some .int) (some (.int r)) h) : V M_X2_snowOfAll x 0 0 [(0, .ref v0)] [] h 0 0 := by
  unfold F_X2_snowOfAll_b0 at e
  refine V_iconst (pc := 0) (v := (0 : Int32)) dX2_snowOfAll_0 (by decide) ?_
  refine V_istore_n (pc := 1) (i := 1) (lv' := [(1, .int (0 : Int32)), (0, .ref v0)]) dX2_snowOfAll_1 rfl (by decide) rfl ?_
  refine V_iconst (pc := 2) (v := (0 : Int32)) dX2_snowOfAll_2 (by decide) ?_
  refine V_istore_n (pc := 3) (i := 2) (lv' := [(2, .int (0 : Int32)), (1, .int (0 : Int32)), (0, .ref v0)]) dX2_snowOfAll_3 rfl (by decide) rfl ?_
  refine V_pick [2, 1, 0] rfl ?_
  obtain ⟨y8, g9, e⟩ := ob_some e
  refine iter_V (P := fun z : Int32 × Int32 => V M_X2_snowOfAll x 0 4 [(0, .ref v0), (1, .int z.1), (2, .int z.2)] [] h 0 0) (E := fun z : Int32 => V M_X2_snowOfAll x 0 27 [(1, .int z)] [] h 0 0) (fun z o e9 k1 k2 => r_X2_snowOfAll_l4 v0 z.1 z.2 h e9 (fun z hz9 => k1 z hz9) (fun z hz9 => k2 _ hz9)) _ _ _ g9 ?_
  clear g9
  obtain ⟨w7, rfl⟩ : ∃ q, q = y8 := ⟨_, rfl⟩
  replace e : (some w7) = some r := e
  show V M_X2_snowOfAll x 0 27 [(1, .int w7)] [] h 0 0
  refine V_iload_n (pc := 27) (i := 1) dX2_snowOfAll_27 rfl rfl ?_
  cases e
  exact V_iret (pc := 28) dX2_snowOfAll_28 hF
def F_X2_snowOfAll (v0 : Nat) (h : Hp) : Option Int32 := F_X2_snowOfAll_b0 v0 h
theorem c_X2_snowOfAll {l : Launch} (v0 : Nat) (h : Hp) {r : Int32} (e : F_X2_snowOfAll v0 h = some r) : Ct l yX2_snowOfAll M_X2_snowOfAll (some .int) 0 [.ref v0] h 0 0 (some (.int r)) h :=
  Ct_of rfl rfl (fun q => by cases q) (Nat.le_of_ble_eq_true rfl) (fun x _ hF => V_pick [0] rfl (r_X2_snowOfAll_b0 v0 h e hF))
theorem dX2_wishesOfAll_0 : decode cX2_wishesOfAll 0 = .ok (.iconst 0, 1) := by decide +kernel
theorem dX2_wishesOfAll_1 : decode cX2_wishesOfAll 1 = .ok (.istore_n 1, 1) := by decide +kernel
theorem dX2_wishesOfAll_2 : decode cX2_wishesOfAll 2 = .ok (.iconst 0, 1) := by decide +kernel
theorem dX2_wishesOfAll_3 : decode cX2_wishesOfAll 3 = .ok (.istore_n 2, 1) := by decide +kernel
theorem dX2_wishesOfAll_4 : decode cX2_wishesOfAll 4 = .ok (.iload_n 2, 1) := by decide +kernel
theorem dX2_wishesOfAll_5 : decode cX2_wishesOfAll 5 = .ok (.aload_n 0, 1) := by decide +kernel
theorem dX2_wishesOfAll_6 : decode cX2_wishesOfAll 6 = .ok (.getfield 28, 3) := by decide +kernel
theorem dX2_wishesOfAll_9 : decode cX2_wishesOfAll 9 = .ok (.if_icmp .ge 21, 3) := by decide +kernel
theorem dX2_wishesOfAll_12 : decode cX2_wishesOfAll 12 = .ok (.iload_n 1, 1) := by decide +kernel
theorem dX2_wishesOfAll_13 : decode cX2_wishesOfAll 13 = .ok (.aload_n 0, 1) := by decide +kernel
theorem dX2_wishesOfAll_14 : decode cX2_wishesOfAll 14 = .ok (.getfield 39, 3) := by decide +kernel
theorem dX2_wishesOfAll_17 : decode cX2_wishesOfAll 17 = .ok (.iload_n 2, 1) := by decide +kernel
theorem dX2_wishesOfAll_18 : decode cX2_wishesOfAll 18 = .ok (.aaload, 1) := by decide +kernel
theorem dX2_wishesOfAll_19 : decode cX2_wishesOfAll 19 = .ok (.getfield 101, 3) := by decide +kernel
theorem dX2_wishesOfAll_22 : decode cX2_wishesOfAll 22 = .ok (.iadd, 1) := by decide +kernel
theorem dX2_wishesOfAll_23 : decode cX2_wishesOfAll 23 = .ok (.istore_n 1, 1) := by decide +kernel
theorem dX2_wishesOfAll_24 : decode cX2_wishesOfAll 24 = .ok (.iinc 2 1, 3) := by decide +kernel
theorem dX2_wishesOfAll_27 : decode cX2_wishesOfAll 27 = .ok (.goto (-23), 3) := by decide +kernel
theorem dX2_wishesOfAll_30 : decode cX2_wishesOfAll 30 = .ok (.iload_n 1, 1) := by decide +kernel
theorem dX2_wishesOfAll_31 : decode cX2_wishesOfAll 31 = .ok (.ireturn, 1) := by decide +kernel
set_option maxRecDepth 100000 in
def F_X2_wishesOfAll_l4 (v0 : Nat) (v1 : Int32) (v2 : Int32) (h : Hp) : Option ((Int32 × Int32) ⊕ Int32) :=
  gd (decide (kd h v0 = 2)) <| (if (zI h v0 5) ≤ v2 then some (.inr v1) else ob (zR h v0 8) fun q2 => gd (decide (kd h q2 = 15)) <| gd (ix v2 (zl h q2)) <| ob (zR h q2 (v2).toNatClampNeg) fun q6 => gd (decide (kd h q6 = 9)) <| some (.inl (v1 + (zI h q6 0), v2 + (1 : Int32))))
set_option maxHeartbeats 4000000 in
set_option maxRecDepth 100000 in
theorem r_X2_wishesOfAll_l4 (v0 : Nat) (v1 : Int32) (v2 : Int32) (h : Hp) {x : Cx} {o : ((Int32 × Int32) ⊕ Int32)} (e : F_X2_wishesOfAll_l4 v0 v1 v2 h = some o) (kI : ∀ z, o = .inl z → V M_X2_wishesOfAll x 0 4 [(0, .ref v0), (1, .int z.1), (2, .int z.2)] [] h 0 0) (kE30 : ∀ z : Int32, o = .inr z → V M_X2_wishesOfAll x 0 30 [(1, .int z)] [] h 0 0) : V M_X2_wishesOfAll x 0 4 [(0, .ref v0), (1, .int v1), (2, .int v2)] [] h 0 0 := by
  unfold F_X2_wishesOfAll_l4 at e
  refine V_iload_n (pc := 4) (i := 2) dX2_wishesOfAll_4 rfl rfl ?_
  refine V_aload_n (pc := 5) (i := 0) dX2_wishesOfAll_5 rfl rfl ?_
  obtain ⟨g1, e⟩ := gd_some e
  refine V_getI (pc := 6) (ci := 2) (k := 5) dX2_wishesOfAll_6 fl_X2_28 rfl (of_decide_eq_true g1) ?_
  refine V_icmp_ge (pc := 9) (tgt := 30) dX2_wishesOfAll_9 (by decide) (fun c9 => ?_) (fun c9 => ?_)
  · rw [if_pos c9] at e
    cases e
    exact V_pick [1] rfl (kE30 _ rfl)
  · rw [if_neg c9] at e
    refine V_pick [0, 1, 2] rfl ?_
    refine V_iload_n (pc := 12) (i := 1) dX2_wishesOfAll_12 rfl rfl ?_
    refine V_aload_n (pc := 13) (i := 0) dX2_wishesOfAll_13 rfl rfl ?_
    obtain ⟨q2, g3, e⟩ := ob_some e
    refine V_getR (pc := 14) (ci := 2) (k := 8) (b := q2) dX2_wishesOfAll_14 fl_X2_39 rfl (of_decide_eq_true g1) g3 ?_
    refine V_iload_n (pc := 17) (i := 2) dX2_wishesOfAll_17 rfl rfl ?_
    obtain ⟨g4, e⟩ := gd_some e
    obtain ⟨g5, e⟩ := gd_some e
    obtain ⟨q6, g7, e⟩ := ob_some e
    refine V_aald (pc := 18) (b := q6) dX2_wishesOfAll_18 (of_decide_eq_true g4) (ix_in g5) g7 ?_
    obtain ⟨g8, e⟩ := gd_some e
    refine V_getI (pc := 19) (ci := 9) (k := 0) dX2_wishesOfAll_19 fl_X2_101 rfl (of_decide_eq_true g8) ?_
    refine V_iadd (pc := 22) dX2_wishesOfAll_22 ?_
    refine V_istore_n (pc := 23) (i := 1) (lv' := [(1, .int (v1 + (zI h q6 0))), (0, .ref v0), (2, .int v2)]) dX2_wishesOfAll_23 rfl (by decide) rfl ?_
    refine V_iinc (pc := 24) (i := 2) (u := v2 + (1 : Int32)) (lv' := [(2, .int (v2 + (1 : Int32))), (1, .int (v1 + (zI h q6 0))), (0, .ref v0)]) dX2_wishesOfAll_24 rfl rfl (by decide) rfl ?_
    refine V_goto (pc := 27) (tgt := 4) dX2_wishesOfAll_27 (by decide) ?_
    cases e
    exact V_pick [2, 1, 0] rfl (kI _ rfl)
set_option maxRecDepth 100000 in
def F_X2_wishesOfAll_b0 (v0 : Nat) (h : Hp) : Option Int32 :=
  ob (iter (fun z : Int32 × Int32 => F_X2_wishesOfAll_l4 v0 z.1 z.2 h) FU ((0 : Int32), (0 : Int32))) (fun w10 => some w10)
set_option maxHeartbeats 4000000 in
set_option maxRecDepth 100000 in
theorem r_X2_wishesOfAll_b0 (v0 : Nat) (h : Hp) {x : Cx} {r : Int32} (e : F_X2_wishesOfAll_b0 v0 h = some r) (hF : Fin9 M_X2_wishesOfAll x (some .int) (some (.int r)) h) : V M_X2_wishesOfAll x 0 0 [(0, .ref v0)] [] h 0 0 := by
  unfold F_X2_wishesOfAll_b0 at e
  refine V_iconst (pc := 0) (v := (0 : Int32)) dX2_wishesOfAll_0 (by decide) ?_
  refine V_istore_n (pc := 1) (i := 1) (lv' := [(1, .int (0 : Int32)), (0, .ref v0)]) dX2_wishesOfAll_1 rfl (by decide) rfl ?_
  refine V_iconst (pc := 2) (v := (0 : Int32)) dX2_wishesOfAll_2 (by decide) ?_
  refine V_istore_n (pc := 3) (i := 2) (lv' := [(2, .int (0 : Int32)), (1, .int (0 : Int32)), (0, .ref v0)]) dX2_wishesOfAll_3 rfl (by decide) rfl ?_
  refine V_pick [2, 1, 0] rfl ?_
  obtain ⟨y11, g12, e⟩ := ob_some e
  refine iter_V (P := fun z : Int32 × Int32 => V M_X2_wishesOfAll x 0 4 [(0, .ref v0), (1, .int z.1), (2, .int z.2)] [] h 0 0) (E := fun z : Int32 => V M_X2_wishesOfAll x 0 30 [(1, .int z)] [] h 0 0) (fun z o e9 k1 k2 => r_X2_wishesOfAll_l4 v0 z.1 z.2 h e9 (fun z hz9 => k1 z hz9) (fun z hz9 => k2 _ hz9)) _ _ _ g12 ?_
  clear g12
  obtain ⟨w10, rfl⟩ : ∃ q, q = y11 := ⟨_, rfl⟩
  replace e : (some w10) = some r := e
  show V M_X2_wishesOfAll x 0 30 [(1, .int w10)] [] h 0 0
  refine V_iload_n (pc := 30) (i := 1) dX2_wishesOfAll_30 rfl rfl ?_
  cases e
  exact V_iret (pc := 31) dX2_wishesOfAll_31 hF
def F_X2_wishesOfAll (v0 : Nat) (h : Hp) : Option Int32 := F_X2_wishesOfAll_b0 v0 h
theorem c_X2_wishesOfAll {l : Launch} (v0 : Nat) (h : Hp) {r : Int32} (e : F_X2_wishesOfAll v0 h = some r) : Ct l yX2_wishesOfAll M_X2_wishesOfAll (some .int) 0 [.ref v0] h 0 0 (some (.int r)) h :=
  Ct_of rfl rfl (fun q => by cases q) (Nat.le_of_ble_eq_true rfl) (fun x _ hF => V_pick [0] rfl (r_X2_wishesOfAll_b0 v0 h e hF))
theorem dX2_netOfThings_0 : decode cX2_netOfThings 0 = .ok (.aload_n 0, 1) := by decide +kernel
theorem dX2_netOfThings_1 : decode cX2_netOfThings 1 = .ok (.getfield 50, 3) := by decide +kernel
theorem dX2_netOfThings_4 : decode cX2_netOfThings 4 = .ok (.aload_n 1, 1) := by decide +kernel
theorem dX2_netOfThings_5 : decode cX2_netOfThings 5 = .ok (.iload_n 2, 1) := by decide +kernel
theorem dX2_netOfThings_6 : decode cX2_netOfThings 6 = .ok (.iaload, 1) := by decide +kernel
theorem dX2_netOfThings_7 : decode cX2_netOfThings 7 = .ok (.imul, 1) := by decide +kernel
theorem dX2_netOfThings_8 : decode cX2_netOfThings 8 = .ok (.istore_n 3, 1) := by decide +kernel
theorem dX2_netOfThings_9 : decode cX2_netOfThings 9 = .ok (.iconst 0, 1) := by decide +kernel
theorem dX2_netOfThings_10 : decode cX2_netOfThings 10 = .ok (.istore 4, 2) := by decide +kernel
theorem dX2_netOfThings_12 : decode cX2_netOfThings 12 = .ok (.iload 4, 2) := by decide +kernel
theorem dX2_netOfThings_14 : decode cX2_netOfThings 14 = .ok (.aload_n 0, 1) := by decide +kernel
theorem dX2_netOfThings_15 : decode cX2_netOfThings 15 = .ok (.getfield 9, 3) := by decide +kernel
theorem dX2_netOfThings_18 : decode cX2_netOfThings 18 = .ok (.if_icmp .ge 24, 3) := by decide +kernel
theorem dX2_netOfThings_21 : decode cX2_netOfThings 21 = .ok (.iload_n 3, 1) := by decide +kernel
theorem dX2_netOfThings_22 : decode cX2_netOfThings 22 = .ok (.aload_n 0, 1) := by decide +kernel
theorem dX2_netOfThings_23 : decode cX2_netOfThings 23 = .ok (.getfield 25, 3) := by decide +kernel
theorem dX2_netOfThings_26 : decode cX2_netOfThings 26 = .ok (.iload 4, 2) := by decide +kernel
theorem dX2_netOfThings_28 : decode cX2_netOfThings 28 = .ok (.iaload, 1) := by decide +kernel
theorem dX2_netOfThings_29 : decode cX2_netOfThings 29 = .ok (.aload_n 1, 1) := by decide +kernel
theorem dX2_netOfThings_30 : decode cX2_netOfThings 30 = .ok (.iload 4, 2) := by decide +kernel
theorem dX2_netOfThings_32 : decode cX2_netOfThings 32 = .ok (.iaload, 1) := by decide +kernel
theorem dX2_netOfThings_33 : decode cX2_netOfThings 33 = .ok (.imul, 1) := by decide +kernel
theorem dX2_netOfThings_34 : decode cX2_netOfThings 34 = .ok (.iadd, 1) := by decide +kernel
theorem dX2_netOfThings_35 : decode cX2_netOfThings 35 = .ok (.istore_n 3, 1) := by decide +kernel
theorem dX2_netOfThings_36 : decode cX2_netOfThings 36 = .ok (.iinc 4 1, 3) := by decide +kernel
theorem dX2_netOfThings_39 : decode cX2_netOfThings 39 = .ok (.goto (-27), 3) := by decide +kernel
theorem dX2_netOfThings_42 : decode cX2_netOfThings 42 = .ok (.iload_n 3, 1) := by decide +kernel
theorem dX2_netOfThings_43 : decode cX2_netOfThings 43 = .ok (.ireturn, 1) := by decide +kernel
set_option maxRecDepth 100000 in
def F_X2_netOfThings_l12 (v0 : Nat) (v1 : Nat) (v3 : Int32) (v4 : Int32) (h : Hp) : Option ((Int32 × Int32) ⊕ Int32) :=
  gd (decide (kd h v0 = 2)) <| (if (zI h v0 0) ≤ v4 then some (.inr v3) else ob (zR h v0 4) fun q5 => gd (decide (kd h q5 = 13)) <| gd (ix v4 (zl h q5)) <| gd (decide (kd h v1 = 13)) <| gd (ix v4 (zl h v1)) <| some (.inl (v3 + ((zI h q5 (v4).toNatClampNeg) * (zI h v1 (v4).toNatClampNeg)), v4 + (1 : Int32))))
set_option maxHeartbeats 4000000 in
set_option maxRecDepth 100000 in
theorem r_X2_netOfThings_l12 (v0 : Nat) (v1 : Nat) (v3 : Int32) (v4 : Int32) (h : Hp) {x : Cx} {o : ((Int32 × Int32) ⊕ Int32)} (e : F_X2_netOfThings_l12 v0 v1 v3 v4 h = some o) (kI : ∀ z, o = .inl z → V M_X2_netOfThings x 0 12 [(0, .ref v0), (1, .ref v1), (3, .int z.1), (4, .int z.2)] [] h 0 0) (kE42 : ∀ z : Int32, o = .inr z → V M_X2_netOfThings x 0 42 [(3, .int z)] [] h 0 0) : V M_X2_netOfThings x 0 12 [(0, .ref v0), (1, .ref v1), (3, .int v3), (4, .int v4)] [] h 0 0 := by
  unfold F_X2_netOfThings_l12 at e
  refine V_iload (pc := 12) (i := 4) dX2_netOfThings_12 rfl ?_
  refine V_aload_n (pc := 14) (i := 0) dX2_netOfThings_14 rfl rfl ?_
  obtain ⟨g4, e⟩ := gd_some e
  refine V_getI (pc := 15) (ci := 2) (k := 0) dX2_netOfThings_15 fl_X2_9 rfl (of_decide_eq_true g4) ?_
  refine V_icmp_ge (pc := 18) (tgt := 42) dX2_netOfThings_18 (by decide) (fun c11 => ?_) (fun c11 => ?_)
  · rw [if_pos c11] at e
    cases e
    exact V_pick [2] rfl (kE42 _ rfl)
  · rw [if_neg c11] at e
    refine V_pick [0, 1, 2, 3] rfl ?_
    refine V_iload_n (pc := 21) (i := 3) dX2_netOfThings_21 rfl rfl ?_
    refine V_aload_n (pc := 22) (i := 0) dX2_netOfThings_22 rfl rfl ?_
    obtain ⟨q5, g6, e⟩ := ob_some e
    refine V_getR (pc := 23) (ci := 2) (k := 4) (b := q5) dX2_netOfThings_23 fl_X2_25 rfl (of_decide_eq_true g4) g6 ?_
    refine V_iload (pc := 26) (i := 4) dX2_netOfThings_26 rfl ?_
    obtain ⟨g7, e⟩ := gd_some e
    obtain ⟨g8, e⟩ := gd_some e
    refine V_iald (pc := 28) dX2_netOfThings_28 (of_decide_eq_true g7) (ix_in g8) ?_
    refine V_aload_n (pc := 29) (i := 1) dX2_netOfThings_29 rfl rfl ?_
    refine V_iload (pc := 30) (i := 4) dX2_netOfThings_30 rfl ?_
    obtain ⟨g9, e⟩ := gd_some e
    obtain ⟨g10, e⟩ := gd_some e
    refine V_iald (pc := 32) dX2_netOfThings_32 (of_decide_eq_true g9) (ix_in g10) ?_
    refine V_imul (pc := 33) dX2_netOfThings_33 ?_
    refine V_iadd (pc := 34) dX2_netOfThings_34 ?_
    refine V_istore_n (pc := 35) (i := 3) (lv' := [(3, .int (v3 + ((zI h q5 (v4).toNatClampNeg) * (zI h v1 (v4).toNatClampNeg)))), (0, .ref v0), (1, .ref v1), (4, .int v4)]) dX2_netOfThings_35 rfl (by decide) rfl ?_
    refine V_iinc (pc := 36) (i := 4) (u := v4 + (1 : Int32)) (lv' := [(4, .int (v4 + (1 : Int32))), (3, .int (v3 + ((zI h q5 (v4).toNatClampNeg) * (zI h v1 (v4).toNatClampNeg)))), (0, .ref v0), (1, .ref v1)]) dX2_netOfThings_36 rfl rfl (by decide) rfl ?_
    refine V_goto (pc := 39) (tgt := 12) dX2_netOfThings_39 (by decide) ?_
    cases e
    exact V_pick [2, 3, 1, 0] rfl (kI _ rfl)
set_option maxRecDepth 100000 in
def F_X2_netOfThings_b0 (v0 : Nat) (v1 : Nat) (v2 : Int32) (h : Hp) : Option Int32 :=
  gd (decide (kd h v0 = 2)) <| gd (decide (kd h v1 = 13)) <| gd (ix v2 (zl h v1)) <| ob (iter (fun z : Int32 × Int32 => F_X2_netOfThings_l12 v0 v1 z.1 z.2 h) FU ((zI h v0 10) * (zI h v1 (v2).toNatClampNeg), (0 : Int32))) (fun w12 => some w12)
set_option maxHeartbeats 4000000 in
set_option maxRecDepth 100000 in
theorem r_X2_netOfThings_b0 (v0 : Nat) (v1 : Nat) (v2 : Int32) (h : Hp) {x : Cx} {r : Int32} (e : F_X2_netOfThings_b0 v0 v1 v2 h = some r) (hF : Fin9 M_X2_netOfThings x (some .int) (some (.int r)) h) : V M_X2_netOfThings x 0 0 [(0, .ref v0), (1, .ref v1), (2, .int v2)] [] h 0 0 := by
  unfold F_X2_netOfThings_b0 at e
  refine V_aload_n (pc := 0) (i := 0) dX2_netOfThings_0 rfl rfl ?_
  obtain ⟨g1, e⟩ := gd_some e
  refine V_getI (pc := 1) (ci := 2) (k := 10) dX2_netOfThings_1 fl_X2_50 rfl (of_decide_eq_true g1) ?_
  refine V_aload_n (pc := 4) (i := 1) dX2_netOfThings_4 rfl rfl ?_
  refine V_iload_n (pc := 5) (i := 2) dX2_netOfThings_5 rfl rfl ?_
  obtain ⟨g2, e⟩ := gd_some e
  obtain ⟨g3, e⟩ := gd_some e
  refine V_iald (pc := 6) dX2_netOfThings_6 (of_decide_eq_true g2) (ix_in g3) ?_
  refine V_imul (pc := 7) dX2_netOfThings_7 ?_
  refine V_istore_n (pc := 8) (i := 3) (lv' := [(3, .int ((zI h v0 10) * (zI h v1 (v2).toNatClampNeg))), (0, .ref v0), (1, .ref v1), (2, .int v2)]) dX2_netOfThings_8 rfl (by decide) rfl ?_
  refine V_iconst (pc := 9) (v := (0 : Int32)) dX2_netOfThings_9 (by decide) ?_
  refine V_istore (pc := 10) (i := 4) (lv' := [(4, .int (0 : Int32)), (3, .int ((zI h v0 10) * (zI h v1 (v2).toNatClampNeg))), (0, .ref v0), (1, .ref v1), (2, .int v2)]) dX2_netOfThings_10 (by decide) rfl ?_
  refine V_pick [2, 3, 1, 0] rfl ?_
  obtain ⟨y13, g14, e⟩ := ob_some e
  refine iter_V (P := fun z : Int32 × Int32 => V M_X2_netOfThings x 0 12 [(0, .ref v0), (1, .ref v1), (3, .int z.1), (4, .int z.2)] [] h 0 0) (E := fun z : Int32 => V M_X2_netOfThings x 0 42 [(3, .int z)] [] h 0 0) (fun z o e9 k1 k2 => r_X2_netOfThings_l12 v0 v1 z.1 z.2 h e9 (fun z hz9 => k1 z hz9) (fun z hz9 => k2 _ hz9)) _ _ _ g14 ?_
  clear g14
  obtain ⟨w12, rfl⟩ : ∃ q, q = y13 := ⟨_, rfl⟩
  replace e : (some w12) = some r := e
  show V M_X2_netOfThings x 0 42 [(3, .int w12)] [] h 0 0
  refine V_iload_n (pc := 42) (i := 3) dX2_netOfThings_42 rfl rfl ?_
  cases e
  exact V_iret (pc := 43) dX2_netOfThings_43 hF
def F_X2_netOfThings (v0 : Nat) (v1 : Nat) (v2 : Int32) (h : Hp) : Option Int32 := F_X2_netOfThings_b0 v0 v1 v2 h
theorem c_X2_netOfThings {l : Launch} (v0 : Nat) (v1 : Nat) (v2 : Int32) (h : Hp) {r : Int32} (e : F_X2_netOfThings v0 v1 v2 h = some r) : Ct l yX2_netOfThings M_X2_netOfThings (some .int) 0 [.ref v0, .ref v1, .int v2] h 0 0 (some (.int r)) h :=
  Ct_of rfl rfl (fun q => by cases q) (Nat.le_of_ble_eq_true rfl) (fun x _ hF => V_pick [0, 1, 2] rfl (r_X2_netOfThings_b0 v0 v1 v2 h e hF))
theorem dX2_netOfGuests_0 : decode cX2_netOfGuests 0 = .ok (.iconst 0, 1) := by decide +kernel
theorem dX2_netOfGuests_1 : decode cX2_netOfGuests 1 = .ok (.istore_n 3, 1) := by decide +kernel
theorem dX2_netOfGuests_2 : decode cX2_netOfGuests 2 = .ok (.iconst 0, 1) := by decide +kernel
theorem dX2_netOfGuests_3 : decode cX2_netOfGuests 3 = .ok (.istore 4, 2) := by decide +kernel
theorem dX2_netOfGuests_5 : decode cX2_netOfGuests 5 = .ok (.iload 4, 2) := by decide +kernel
theorem dX2_netOfGuests_7 : decode cX2_netOfGuests 7 = .ok (.aload_n 0, 1) := by decide +kernel
theorem dX2_netOfGuests_8 : decode cX2_netOfGuests 8 = .ok (.getfield 28, 3) := by decide +kernel
theorem dX2_netOfGuests_11 : decode cX2_netOfGuests 11 = .ok (.if_icmp .ge 26, 3) := by decide +kernel
theorem dX2_netOfGuests_14 : decode cX2_netOfGuests 14 = .ok (.iload_n 3, 1) := by decide +kernel
theorem dX2_netOfGuests_15 : decode cX2_netOfGuests 15 = .ok (.aload_n 0, 1) := by decide +kernel
theorem dX2_netOfGuests_16 : decode cX2_netOfGuests 16 = .ok (.getfield 31, 3) := by decide +kernel
theorem dX2_netOfGuests_19 : decode cX2_netOfGuests 19 = .ok (.iload 4, 2) := by decide +kernel
theorem dX2_netOfGuests_21 : decode cX2_netOfGuests 21 = .ok (.iaload, 1) := by decide +kernel
theorem dX2_netOfGuests_22 : decode cX2_netOfGuests 22 = .ok (.aload_n 1, 1) := by decide +kernel
theorem dX2_netOfGuests_23 : decode cX2_netOfGuests 23 = .ok (.aload_n 2, 1) := by decide +kernel
theorem dX2_netOfGuests_24 : decode cX2_netOfGuests 24 = .ok (.iload 4, 2) := by decide +kernel
theorem dX2_netOfGuests_26 : decode cX2_netOfGuests 26 = .ok (.iaload, 1) := by decide +kernel
theorem dX2_netOfGuests_27 : decode cX2_netOfGuests 27 = .ok (.iaload, 1) := by decide +kernel
theorem dX2_netOfGuests_28 : decode cX2_netOfGuests 28 = .ok (.imul, 1) := by decide +kernel
theorem dX2_netOfGuests_29 : decode cX2_netOfGuests 29 = .ok (.iadd, 1) := by decide +kernel
theorem dX2_netOfGuests_30 : decode cX2_netOfGuests 30 = .ok (.istore_n 3, 1) := by decide +kernel
theorem dX2_netOfGuests_31 : decode cX2_netOfGuests 31 = .ok (.iinc 4 1, 3) := by decide +kernel
theorem dX2_netOfGuests_34 : decode cX2_netOfGuests 34 = .ok (.goto (-29), 3) := by decide +kernel
theorem dX2_netOfGuests_37 : decode cX2_netOfGuests 37 = .ok (.iload_n 3, 1) := by decide +kernel
theorem dX2_netOfGuests_38 : decode cX2_netOfGuests 38 = .ok (.ireturn, 1) := by decide +kernel
set_option maxRecDepth 100000 in
def F_X2_netOfGuests_l5 (v0 : Nat) (v1 : Nat) (v2 : Nat) (v3 : Int32) (v4 : Int32) (h : Hp) : Option ((Int32 × Int32) ⊕ Int32) :=
  gd (decide (kd h v0 = 2)) <| (if (zI h v0 5) ≤ v4 then some (.inr v3) else ob (zR h v0 6) fun q2 => gd (decide (kd h q2 = 13)) <| gd (ix v4 (zl h q2)) <| gd (decide (kd h v2 = 13)) <| gd (ix v4 (zl h v2)) <| gd (decide (kd h v1 = 13)) <| gd (ix (zI h v2 (v4).toNatClampNeg) (zl h v1)) <| some (.inl (v3 + ((zI h q2 (v4).toNatClampNeg) * (zI h v1 (zI h v2 (v4).toNatClampNeg).toNatClampNeg)), v4 + (1 : Int32))))
set_option maxHeartbeats 4000000 in
set_option maxRecDepth 100000 in
theorem r_X2_netOfGuests_l5 (v0 : Nat) (v1 : Nat) (v2 : Nat) (v3 : Int32) (v4 : Int32) (h : Hp) {x : Cx} {o : ((Int32 × Int32) ⊕ Int32)} (e : F_X2_netOfGuests_l5 v0 v1 v2 v3 v4 h = some o) (kI : ∀ z, o = .inl z → V M_X2_netOfGuests x 0 5 [(0, .ref v0), (1, .ref v1), (2, .ref v2), (3, .int z.1), (4, .int z.2)] [] h 0 0) (kE37 : ∀ z : Int32, o = .inr z → V M_X2_netOfGuests x 0 37 [(3, .int z)] [] h 0 0) : V M_X2_netOfGuests x 0 5 [(0, .ref v0), (1, .ref v1), (2, .ref v2), (3, .int v3), (4, .int v4)] [] h 0 0 := by
  unfold F_X2_netOfGuests_l5 at e
  refine V_iload (pc := 5) (i := 4) dX2_netOfGuests_5 rfl ?_
  refine V_aload_n (pc := 7) (i := 0) dX2_netOfGuests_7 rfl rfl ?_
  obtain ⟨g1, e⟩ := gd_some e
  refine V_getI (pc := 8) (ci := 2) (k := 5) dX2_netOfGuests_8 fl_X2_28 rfl (of_decide_eq_true g1) ?_
  refine V_icmp_ge (pc := 11) (tgt := 37) dX2_netOfGuests_11 (by decide) (fun c10 => ?_) (fun c10 => ?_)
  · rw [if_pos c10] at e
    cases e
    exact V_pick [3] rfl (kE37 _ rfl)
  · rw [if_neg c10] at e
    refine V_pick [0, 1, 2, 3, 4] rfl ?_
    refine V_iload_n (pc := 14) (i := 3) dX2_netOfGuests_14 rfl rfl ?_
    refine V_aload_n (pc := 15) (i := 0) dX2_netOfGuests_15 rfl rfl ?_
    obtain ⟨q2, g3, e⟩ := ob_some e
    refine V_getR (pc := 16) (ci := 2) (k := 6) (b := q2) dX2_netOfGuests_16 fl_X2_31 rfl (of_decide_eq_true g1) g3 ?_
    refine V_iload (pc := 19) (i := 4) dX2_netOfGuests_19 rfl ?_
    obtain ⟨g4, e⟩ := gd_some e
    obtain ⟨g5, e⟩ := gd_some e
    refine V_iald (pc := 21) dX2_netOfGuests_21 (of_decide_eq_true g4) (ix_in g5) ?_
    refine V_aload_n (pc := 22) (i := 1) dX2_netOfGuests_22 rfl rfl ?_
    refine V_aload_n (pc := 23) (i := 2) dX2_netOfGuests_23 rfl rfl ?_
    refine V_iload (pc := 24) (i := 4) dX2_netOfGuests_24 rfl ?_
    obtain ⟨g6, e⟩ := gd_some e
    obtain ⟨g7, e⟩ := gd_some e
    refine V_iald (pc := 26) dX2_netOfGuests_26 (of_decide_eq_true g6) (ix_in g7) ?_
    obtain ⟨g8, e⟩ := gd_some e
    obtain ⟨g9, e⟩ := gd_some e
    refine V_iald (pc := 27) dX2_netOfGuests_27 (of_decide_eq_true g8) (ix_in g9) ?_
    refine V_imul (pc := 28) dX2_netOfGuests_28 ?_
    refine V_iadd (pc := 29) dX2_netOfGuests_29 ?_
    refine V_istore_n (pc := 30) (i := 3) (lv' := [(3, .int (v3 + ((zI h q2 (v4).toNatClampNeg) * (zI h v1 (zI h v2 (v4).toNatClampNeg).toNatClampNeg)))), (0, .ref v0), (1, .ref v1), (2, .ref v2), (4, .int v4)]) dX2_netOfGuests_30 rfl (by decide) rfl ?_
    refine V_iinc (pc := 31) (i := 4) (u := v4 + (1 : Int32)) (lv' := [(4, .int (v4 + (1 : Int32))), (3, .int (v3 + ((zI h q2 (v4).toNatClampNeg) * (zI h v1 (zI h v2 (v4).toNatClampNeg).toNatClampNeg)))), (0, .ref v0), (1, .ref v1), (2, .ref v2)]) dX2_netOfGuests_31 rfl rfl (by decide) rfl ?_
    refine V_goto (pc := 34) (tgt := 5) dX2_netOfGuests_34 (by decide) ?_
    cases e
    exact V_pick [2, 3, 4, 1, 0] rfl (kI _ rfl)
set_option maxRecDepth 100000 in
def F_X2_netOfGuests_b0 (v0 : Nat) (v1 : Nat) (v2 : Nat) (h : Hp) : Option Int32 :=
  ob (iter (fun z : Int32 × Int32 => F_X2_netOfGuests_l5 v0 v1 v2 z.1 z.2 h) FU ((0 : Int32), (0 : Int32))) (fun w11 => some w11)
set_option maxHeartbeats 4000000 in
set_option maxRecDepth 100000 in
theorem r_X2_netOfGuests_b0 (v0 : Nat) (v1 : Nat) (v2 : Nat) (h : Hp) {x : Cx} {r : Int32} (e : F_X2_netOfGuests_b0 v0 v1 v2 h = some r) (hF : Fin9 M_X2_netOfGuests x (some .int) (some (.int r)) h) : V M_X2_netOfGuests x 0 0 [(0, .ref v0), (1, .ref v1), (2, .ref v2)] [] h 0 0 := by
  unfold F_X2_netOfGuests_b0 at e
  refine V_iconst (pc := 0) (v := (0 : Int32)) dX2_netOfGuests_0 (by decide) ?_
  refine V_istore_n (pc := 1) (i := 3) (lv' := [(3, .int (0 : Int32)), (0, .ref v0), (1, .ref v1), (2, .ref v2)]) dX2_netOfGuests_1 rfl (by decide) rfl ?_
  refine V_iconst (pc := 2) (v := (0 : Int32)) dX2_netOfGuests_2 (by decide) ?_
  refine V_istore (pc := 3) (i := 4) (lv' := [(4, .int (0 : Int32)), (3, .int (0 : Int32)), (0, .ref v0), (1, .ref v1), (2, .ref v2)]) dX2_netOfGuests_3 (by decide) rfl ?_
  refine V_pick [2, 3, 4, 1, 0] rfl ?_
  obtain ⟨y12, g13, e⟩ := ob_some e
  refine iter_V (P := fun z : Int32 × Int32 => V M_X2_netOfGuests x 0 5 [(0, .ref v0), (1, .ref v1), (2, .ref v2), (3, .int z.1), (4, .int z.2)] [] h 0 0) (E := fun z : Int32 => V M_X2_netOfGuests x 0 37 [(3, .int z)] [] h 0 0) (fun z o e9 k1 k2 => r_X2_netOfGuests_l5 v0 v1 v2 z.1 z.2 h e9 (fun z hz9 => k1 z hz9) (fun z hz9 => k2 _ hz9)) _ _ _ g13 ?_
  clear g13
  obtain ⟨w11, rfl⟩ : ∃ q, q = y12 := ⟨_, rfl⟩
  replace e : (some w11) = some r := e
  show V M_X2_netOfGuests x 0 37 [(3, .int w11)] [] h 0 0
  refine V_iload_n (pc := 37) (i := 3) dX2_netOfGuests_37 rfl rfl ?_
  cases e
  exact V_iret (pc := 38) dX2_netOfGuests_38 hF
def F_X2_netOfGuests (v0 : Nat) (v1 : Nat) (v2 : Nat) (h : Hp) : Option Int32 := F_X2_netOfGuests_b0 v0 v1 v2 h
theorem c_X2_netOfGuests {l : Launch} (v0 : Nat) (v1 : Nat) (v2 : Nat) (h : Hp) {r : Int32} (e : F_X2_netOfGuests v0 v1 v2 h = some r) : Ct l yX2_netOfGuests M_X2_netOfGuests (some .int) 0 [.ref v0, .ref v1, .ref v2] h 0 0 (some (.int r)) h :=
  Ct_of rfl rfl (fun q => by cases q) (Nat.le_of_ble_eq_true rfl) (fun x _ hF => V_pick [0, 1, 2] rfl (r_X2_netOfGuests_b0 v0 v1 v2 h e hF))
theorem dX2_net_0 : decode cX2_net 0 = .ok (.aload_n 0, 1) := by decide +kernel
theorem dX2_net_1 : decode cX2_net 1 = .ok (.aload_n 1, 1) := by decide +kernel
theorem dX2_net_2 : decode cX2_net 2 = .ok (.aload_n 0, 1) := by decide +kernel
theorem dX2_net_3 : decode cX2_net 3 = .ok (.getfield 53, 3) := by decide +kernel
theorem dX2_net_6 : decode cX2_net 6 = .ok (.invokevirtual 117, 3) := by decide +kernel
theorem dX2_net_9 : decode cX2_net 9 = .ok (.aload_n 0, 1) := by decide +kernel
theorem dX2_net_10 : decode cX2_net 10 = .ok (.aload_n 1, 1) := by decide +kernel
theorem dX2_net_11 : decode cX2_net 11 = .ok (.aload_n 0, 1) := by decide +kernel
theorem dX2_net_12 : decode cX2_net 12 = .ok (.getfield 34, 3) := by decide +kernel
theorem dX2_net_15 : decode cX2_net 15 = .ok (.invokevirtual 121, 3) := by decide +kernel
theorem dX2_net_18 : decode cX2_net 18 = .ok (.iadd, 1) := by decide +kernel
theorem dX2_net_19 : decode cX2_net 19 = .ok (.ireturn, 1) := by decide +kernel
set_option maxRecDepth 100000 in
def F_X2_net_b0 (v0 : Nat) (v1 : Nat) (h : Hp) : Option Int32 :=
  gd (decide (kd h v0 = 2)) <| ob (F_X2_netOfThings v0 v1 (zI h v0 11) h) fun r3 => ob (zR h v0 7) fun q4 => ob (F_X2_netOfGuests v0 v1 q4 h) fun r7 => some (r3 + r7)
set_option maxHeartbeats 4000000 in
set_option maxRecDepth 100000 in
theorem r_X2_net_b0 (v0 : Nat) (v1 : Nat) (h : Hp) {x : Cx} {r : Int32} (e : F_X2_net_b0 v0 v1 h = some r) (hF : Fin9 M_X2_net x (some .int) (some (.int r)) h) : V M_X2_net x 1 0 [(0, .ref v0), (1, .ref v1)] [] h 0 0 := by
  unfold F_X2_net_b0 at e
  refine V_aload_n (pc := 0) (i := 0) dX2_net_0 rfl rfl ?_
  refine V_aload_n (pc := 1) (i := 1) dX2_net_1 rfl rfl ?_
  refine V_aload_n (pc := 2) (i := 0) dX2_net_2 rfl rfl ?_
  obtain ⟨g1, e⟩ := gd_some e
  refine V_getI (pc := 3) (ci := 2) (k := 11) dX2_net_3 fl_X2_53 rfl (of_decide_eq_true g1) ?_
  obtain ⟨r3, g2, e⟩ := ob_some e
  refine V_callV (pc := 6) (bc := 0) (bs := 0) (mc := 0) (ms := 0) (st := []) (As := [.ref v1, .int (zI h v0 11)]) (a := v0) (h' := h) (r := some (.int r3)) dX2_net_6 ml_X2_117 (ci := 2) rfl (of_decide_eq_true g1) rfl rfl (Nat.le_of_ble_eq_true rfl) (d' := 0) (by decide) (c_X2_netOfThings (l := x.2.1) v0 v1 (zI h v0 11) h g2) ?_
  refine V_aload_n (pc := 9) (i := 0) dX2_net_9 rfl rfl ?_
  refine V_aload_n (pc := 10) (i := 1) dX2_net_10 rfl rfl ?_
  refine V_aload_n (pc := 11) (i := 0) dX2_net_11 rfl rfl ?_
  obtain ⟨q4, g5, e⟩ := ob_some e
  refine V_getR (pc := 12) (ci := 2) (k := 7) (b := q4) dX2_net_12 fl_X2_34 rfl (of_decide_eq_true g1) g5 ?_
  obtain ⟨r7, g6, e⟩ := ob_some e
  refine V_callV (pc := 15) (bc := 0) (bs := 0) (mc := 0) (ms := 0) (st := [.int r3]) (As := [.ref v1, .ref q4]) (a := v0) (h' := h) (r := some (.int r7)) dX2_net_15 ml_X2_121 (ci := 2) rfl (of_decide_eq_true g1) rfl rfl (Nat.le_of_ble_eq_true rfl) (d' := 0) (by decide) (c_X2_netOfGuests (l := x.2.1) v0 v1 q4 h g6) ?_
  refine V_iadd (pc := 18) dX2_net_18 ?_
  cases e
  exact V_iret (pc := 19) dX2_net_19 hF
def F_X2_net (v0 : Nat) (v1 : Nat) (h : Hp) : Option Int32 := F_X2_net_b0 v0 v1 h
theorem c_X2_net {l : Launch} (v0 : Nat) (v1 : Nat) (h : Hp) {r : Int32} (e : F_X2_net v0 v1 h = some r) : Ct l yX2_net M_X2_net (some .int) 1 [.ref v0, .ref v1] h 0 0 (some (.int r)) h :=
  Ct_of rfl rfl (fun q => by cases q) (Nat.le_of_ble_eq_true rfl) (fun x _ hF => V_pick [0, 1] rfl (r_X2_net_b0 v0 v1 h e hF))
theorem dX2_gain_0 : decode cX2_gain 0 = .ok (.aload_n 0, 1) := by decide +kernel
theorem dX2_gain_1 : decode cX2_gain 1 = .ok (.getfield 31, 3) := by decide +kernel
theorem dX2_gain_4 : decode cX2_gain 4 = .ok (.iload_n 1, 1) := by decide +kernel
theorem dX2_gain_5 : decode cX2_gain 5 = .ok (.iaload, 1) := by decide +kernel
theorem dX2_gain_6 : decode cX2_gain 6 = .ok (.aload_n 3, 1) := by decide +kernel
theorem dX2_gain_7 : decode cX2_gain 7 = .ok (.iload_n 2, 1) := by decide +kernel
theorem dX2_gain_8 : decode cX2_gain 8 = .ok (.iaload, 1) := by decide +kernel
theorem dX2_gain_9 : decode cX2_gain 9 = .ok (.aload_n 3, 1) := by decide +kernel
theorem dX2_gain_10 : decode cX2_gain 10 = .ok (.aload_n 0, 1) := by decide +kernel
theorem dX2_gain_11 : decode cX2_gain 11 = .ok (.getfield 34, 3) := by decide +kernel
theorem dX2_gain_14 : decode cX2_gain 14 = .ok (.iload_n 1, 1) := by decide +kernel
theorem dX2_gain_15 : decode cX2_gain 15 = .ok (.iaload, 1) := by decide +kernel
theorem dX2_gain_16 : decode cX2_gain 16 = .ok (.iaload, 1) := by decide +kernel
theorem dX2_gain_17 : decode cX2_gain 17 = .ok (.isub, 1) := by decide +kernel
theorem dX2_gain_18 : decode cX2_gain 18 = .ok (.imul, 1) := by decide +kernel
theorem dX2_gain_19 : decode cX2_gain 19 = .ok (.ireturn, 1) := by decide +kernel
set_option maxRecDepth 100000 in
def F_X2_gain_b0 (v0 : Nat) (v1 : Int32) (v2 : Int32) (v3 : Nat) (h : Hp) : Option Int32 :=
  gd (decide (kd h v0 = 2)) <| ob (zR h v0 6) fun q2 => gd (decide (kd h q2 = 13)) <| gd (ix v1 (zl h q2)) <| gd (decide (kd h v3 = 13)) <| gd (ix v2 (zl h v3)) <| ob (zR h v0 7) fun q8 => gd (decide (kd h q8 = 13)) <| gd (ix v1 (zl h q8)) <| gd (ix (zI h q8 (v1).toNatClampNeg) (zl h v3)) <| some ((zI h q2 (v1).toNatClampNeg) * ((zI h v3 (v2).toNatClampNeg) - (zI h v3 (zI h q8 (v1).toNatClampNeg).toNatClampNeg)))
set_option maxHeartbeats 4000000 in
set_option maxRecDepth 100000 in
theorem r_X2_gain_b0 (v0 : Nat) (v1 : Int32) (v2 : Int32) (v3 : Nat) (h : Hp) {x : Cx} {r : Int32} (e : F_X2_gain_b0 v0 v1 v2 v3 h = some r) (hF : Fin9 M_X2_gain x (some .int) (some (.int r)) h) : V M_X2_gain x 0 0 [(0, .ref v0), (1, .int v1), (2, .int v2), (3, .ref v3)] [] h 0 0 := by
  unfold F_X2_gain_b0 at e
  refine V_aload_n (pc := 0) (i := 0) dX2_gain_0 rfl rfl ?_
  obtain ⟨g1, e⟩ := gd_some e
  obtain ⟨q2, g3, e⟩ := ob_some e
  refine V_getR (pc := 1) (ci := 2) (k := 6) (b := q2) dX2_gain_1 fl_X2_31 rfl (of_decide_eq_true g1) g3 ?_
  refine V_iload_n (pc := 4) (i := 1) dX2_gain_4 rfl rfl ?_
  obtain ⟨g4, e⟩ := gd_some e
  obtain ⟨g5, e⟩ := gd_some e
  refine V_iald (pc := 5) dX2_gain_5 (of_decide_eq_true g4) (ix_in g5) ?_
  refine V_aload_n (pc := 6) (i := 3) dX2_gain_6 rfl rfl ?_
  refine V_iload_n (pc := 7) (i := 2) dX2_gain_7 rfl rfl ?_
  obtain ⟨g6, e⟩ := gd_some e
  obtain ⟨g7, e⟩ := gd_some e
  refine V_iald (pc := 8) dX2_gain_8 (of_decide_eq_true g6) (ix_in g7) ?_
  refine V_aload_n (pc := 9) (i := 3) dX2_gain_9 rfl rfl ?_
  refine V_aload_n (pc := 10) (i := 0) dX2_gain_10 rfl rfl ?_
  obtain ⟨q8, g9, e⟩ := ob_some e
  refine V_getR (pc := 11) (ci := 2) (k := 7) (b := q8) dX2_gain_11 fl_X2_34 rfl (of_decide_eq_true g1) g9 ?_
  refine V_iload_n (pc := 14) (i := 1) dX2_gain_14 rfl rfl ?_
  obtain ⟨g10, e⟩ := gd_some e
  obtain ⟨g11, e⟩ := gd_some e
  refine V_iald (pc := 15) dX2_gain_15 (of_decide_eq_true g10) (ix_in g11) ?_
  obtain ⟨g12, e⟩ := gd_some e
  refine V_iald (pc := 16) dX2_gain_16 (of_decide_eq_true g6) (ix_in g12) ?_
  refine V_isub (pc := 17) dX2_gain_17 ?_
  refine V_imul (pc := 18) dX2_gain_18 ?_
  cases e
  exact V_iret (pc := 19) dX2_gain_19 hF
def F_X2_gain (v0 : Nat) (v1 : Int32) (v2 : Int32) (v3 : Nat) (h : Hp) : Option Int32 := F_X2_gain_b0 v0 v1 v2 v3 h
theorem c_X2_gain {l : Launch} (v0 : Nat) (v1 : Int32) (v2 : Int32) (v3 : Nat) (h : Hp) {r : Int32} (e : F_X2_gain v0 v1 v2 v3 h = some r) : Ct l yX2_gain M_X2_gain (some .int) 0 [.ref v0, .int v1, .int v2, .ref v3] h 0 0 (some (.int r)) h :=
  Ct_of rfl rfl (fun q => by cases q) (Nat.le_of_ble_eq_true rfl) (fun x _ hF => V_pick [0, 1, 2, 3] rfl (r_X2_gain_b0 v0 v1 v2 v3 h e hF))
theorem dX2_asNumber_0 : decode cX2_asNumber 0 = .ok (.iconst 0, 1) := by decide +kernel
theorem dX2_asNumber_1 : decode cX2_asNumber 1 = .ok (.istore_n 2, 1) := by decide +kernel
theorem dX2_asNumber_2 : decode cX2_asNumber 2 = .ok (.iconst 0, 1) := by decide +kernel
theorem dX2_asNumber_3 : decode cX2_asNumber 3 = .ok (.istore_n 3, 1) := by decide +kernel
theorem dX2_asNumber_4 : decode cX2_asNumber 4 = .ok (.iload_n 3, 1) := by decide +kernel
theorem dX2_asNumber_5 : decode cX2_asNumber 5 = .ok (.aload_n 0, 1) := by decide +kernel
theorem dX2_asNumber_6 : decode cX2_asNumber 6 = .ok (.getfield 28, 3) := by decide +kernel
theorem dX2_asNumber_9 : decode cX2_asNumber 9 = .ok (.if_icmp .ge 19, 3) := by decide +kernel
theorem dX2_asNumber_12 : decode cX2_asNumber 12 = .ok (.iload_n 2, 1) := by decide +kernel
theorem dX2_asNumber_13 : decode cX2_asNumber 13 = .ok (.aload_n 1, 1) := by decide +kernel
theorem dX2_asNumber_14 : decode cX2_asNumber 14 = .ok (.iload_n 3, 1) := by decide +kernel
theorem dX2_asNumber_15 : decode cX2_asNumber 15 = .ok (.iaload, 1) := by decide +kernel
theorem dX2_asNumber_16 : decode cX2_asNumber 16 = .ok (.iconst 3, 1) := by decide +kernel
theorem dX2_asNumber_17 : decode cX2_asNumber 17 = .ok (.iload_n 3, 1) := by decide +kernel
theorem dX2_asNumber_18 : decode cX2_asNumber 18 = .ok (.imul, 1) := by decide +kernel
theorem dX2_asNumber_19 : decode cX2_asNumber 19 = .ok (.ishl, 1) := by decide +kernel
theorem dX2_asNumber_20 : decode cX2_asNumber 20 = .ok (.iadd, 1) := by decide +kernel
theorem dX2_asNumber_21 : decode cX2_asNumber 21 = .ok (.istore_n 2, 1) := by decide +kernel
theorem dX2_asNumber_22 : decode cX2_asNumber 22 = .ok (.iinc 3 1, 3) := by decide +kernel
theorem dX2_asNumber_25 : decode cX2_asNumber 25 = .ok (.goto (-21), 3) := by decide +kernel
theorem dX2_asNumber_28 : decode cX2_asNumber 28 = .ok (.iload_n 2, 1) := by decide +kernel
theorem dX2_asNumber_29 : decode cX2_asNumber 29 = .ok (.ireturn, 1) := by decide +kernel
set_option maxRecDepth 100000 in
def F_X2_asNumber_l4 (v0 : Nat) (v1 : Nat) (v2 : Int32) (v3 : Int32) (h : Hp) : Option ((Int32 × Int32) ⊕ Int32) :=
  gd (decide (kd h v0 = 2)) <| (if (zI h v0 5) ≤ v3 then some (.inr v2) else gd (decide (kd h v1 = 13)) <| gd (ix v3 (zl h v1)) <| some (.inl (v2 + ((zI h v1 (v3).toNatClampNeg) <<< (((3 : Int32) * v3) &&& 31)), v3 + (1 : Int32))))
set_option maxHeartbeats 4000000 in
set_option maxRecDepth 100000 in
theorem r_X2_asNumber_l4 (v0 : Nat) (v1 : Nat) (v2 : Int32) (v3 : Int32) (h : Hp) {x : Cx} {o : ((Int32 × Int32) ⊕ Int32)} (e : F_X2_asNumber_l4 v0 v1 v2 v3 h = some o) (kI : ∀ z, o = .inl z → V M_X2_asNumber x 0 4 [(0, .ref v0), (1, .ref v1), (2, .int z.1), (3, .int z.2)] [] h 0 0) (kE28 : ∀ z : Int32, o = .inr z → V M_X2_asNumber x 0 28 [(2, .int z)] [] h 0 0) : V M_X2_asNumber x 0 4 [(0, .ref v0), (1, .ref v1), (2, .int v2), (3, .int v3)] [] h 0 0 := by
  unfold F_X2_asNumber_l4 at e
  refine V_iload_n (pc := 4) (i := 3) dX2_asNumber_4 rfl rfl ?_
  refine V_aload_n (pc := 5) (i := 0) dX2_asNumber_5 rfl rfl ?_
  obtain ⟨g1, e⟩ := gd_some e
  refine V_getI (pc := 6) (ci := 2) (k := 5) dX2_asNumber_6 fl_X2_28 rfl (of_decide_eq_true g1) ?_
  refine V_icmp_ge (pc := 9) (tgt := 28) dX2_asNumber_9 (by decide) (fun c4 => ?_) (fun c4 => ?_)
  · rw [if_pos c4] at e
    cases e
    exact V_pick [2] rfl (kE28 _ rfl)
  · rw [if_neg c4] at e
    refine V_pick [0, 1, 2, 3] rfl ?_
    refine V_iload_n (pc := 12) (i := 2) dX2_asNumber_12 rfl rfl ?_
    refine V_aload_n (pc := 13) (i := 1) dX2_asNumber_13 rfl rfl ?_
    refine V_iload_n (pc := 14) (i := 3) dX2_asNumber_14 rfl rfl ?_
    obtain ⟨g2, e⟩ := gd_some e
    obtain ⟨g3, e⟩ := gd_some e
    refine V_iald (pc := 15) dX2_asNumber_15 (of_decide_eq_true g2) (ix_in g3) ?_
    refine V_iconst (pc := 16) (v := (3 : Int32)) dX2_asNumber_16 (by decide) ?_
    refine V_iload_n (pc := 17) (i := 3) dX2_asNumber_17 rfl rfl ?_
    refine V_imul (pc := 18) dX2_asNumber_18 ?_
    refine V_ishl (pc := 19) dX2_asNumber_19 ?_
    refine V_iadd (pc := 20) dX2_asNumber_20 ?_
    refine V_istore_n (pc := 21) (i := 2) (lv' := [(2, .int (v2 + ((zI h v1 (v3).toNatClampNeg) <<< (((3 : Int32) * v3) &&& 31)))), (0, .ref v0), (1, .ref v1), (3, .int v3)]) dX2_asNumber_21 rfl (by decide) rfl ?_
    refine V_iinc (pc := 22) (i := 3) (u := v3 + (1 : Int32)) (lv' := [(3, .int (v3 + (1 : Int32))), (2, .int (v2 + ((zI h v1 (v3).toNatClampNeg) <<< (((3 : Int32) * v3) &&& 31)))), (0, .ref v0), (1, .ref v1)]) dX2_asNumber_22 rfl rfl (by decide) rfl ?_
    refine V_goto (pc := 25) (tgt := 4) dX2_asNumber_25 (by decide) ?_
    cases e
    exact V_pick [2, 3, 1, 0] rfl (kI _ rfl)
set_option maxRecDepth 100000 in
def F_X2_asNumber_b0 (v0 : Nat) (v1 : Nat) (h : Hp) : Option Int32 :=
  ob (iter (fun z : Int32 × Int32 => F_X2_asNumber_l4 v0 v1 z.1 z.2 h) FU ((0 : Int32), (0 : Int32))) (fun w5 => some w5)
set_option maxHeartbeats 4000000 in
set_option maxRecDepth 100000 in
theorem r_X2_asNumber_b0 (v0 : Nat) (v1 : Nat) (h : Hp) {x : Cx} {r : Int32} (e : F_X2_asNumber_b0 v0 v1 h = some r) (hF : Fin9 M_X2_asNumber x (some .int) (some (.int r)) h) : V M_X2_asNumber x 0 0 [(0, .ref v0), (1, .ref v1)] [] h 0 0 := by
  unfold F_X2_asNumber_b0 at e
  refine V_iconst (pc := 0) (v := (0 : Int32)) dX2_asNumber_0 (by decide) ?_
  refine V_istore_n (pc := 1) (i := 2) (lv' := [(2, .int (0 : Int32)), (0, .ref v0), (1, .ref v1)]) dX2_asNumber_1 rfl (by decide) rfl ?_
  refine V_iconst (pc := 2) (v := (0 : Int32)) dX2_asNumber_2 (by decide) ?_
  refine V_istore_n (pc := 3) (i := 3) (lv' := [(3, .int (0 : Int32)), (2, .int (0 : Int32)), (0, .ref v0), (1, .ref v1)]) dX2_asNumber_3 rfl (by decide) rfl ?_
  refine V_pick [2, 3, 1, 0] rfl ?_
  obtain ⟨y6, g7, e⟩ := ob_some e
  refine iter_V (P := fun z : Int32 × Int32 => V M_X2_asNumber x 0 4 [(0, .ref v0), (1, .ref v1), (2, .int z.1), (3, .int z.2)] [] h 0 0) (E := fun z : Int32 => V M_X2_asNumber x 0 28 [(2, .int z)] [] h 0 0) (fun z o e9 k1 k2 => r_X2_asNumber_l4 v0 v1 z.1 z.2 h e9 (fun z hz9 => k1 z hz9) (fun z hz9 => k2 _ hz9)) _ _ _ g7 ?_
  clear g7
  obtain ⟨w5, rfl⟩ : ∃ q, q = y6 := ⟨_, rfl⟩
  replace e : (some w5) = some r := e
  show V M_X2_asNumber x 0 28 [(2, .int w5)] [] h 0 0
  refine V_iload_n (pc := 28) (i := 2) dX2_asNumber_28 rfl rfl ?_
  cases e
  exact V_iret (pc := 29) dX2_asNumber_29 hF
def F_X2_asNumber (v0 : Nat) (v1 : Nat) (h : Hp) : Option Int32 := F_X2_asNumber_b0 v0 v1 h
theorem c_X2_asNumber {l : Launch} (v0 : Nat) (v1 : Nat) (h : Hp) {r : Int32} (e : F_X2_asNumber v0 v1 h = some r) : Ct l yX2_asNumber M_X2_asNumber (some .int) 0 [.ref v0, .ref v1] h 0 0 (some (.int r)) h :=
  Ct_of rfl rfl (fun q => by cases q) (Nat.le_of_ble_eq_true rfl) (fun x _ hF => V_pick [0, 1] rfl (r_X2_asNumber_b0 v0 v1 h e hF))
theorem dX2_headsOf_0 : decode cX2_headsOf 0 = .ok (.iconst 0, 1) := by decide +kernel
theorem dX2_headsOf_1 : decode cX2_headsOf 1 = .ok (.istore_n 3, 1) := by decide +kernel
theorem dX2_headsOf_2 : decode cX2_headsOf 2 = .ok (.iconst 0, 1) := by decide +kernel
theorem dX2_headsOf_3 : decode cX2_headsOf 3 = .ok (.istore 4, 2) := by decide +kernel
theorem dX2_headsOf_5 : decode cX2_headsOf 5 = .ok (.iload 4, 2) := by decide +kernel
theorem dX2_headsOf_7 : decode cX2_headsOf 7 = .ok (.aload_n 0, 1) := by decide +kernel
theorem dX2_headsOf_8 : decode cX2_headsOf 8 = .ok (.getfield 28, 3) := by decide +kernel
theorem dX2_headsOf_11 : decode cX2_headsOf 11 = .ok (.if_icmp .ge 25, 3) := by decide +kernel
theorem dX2_headsOf_14 : decode cX2_headsOf 14 = .ok (.iload_n 1, 1) := by decide +kernel
theorem dX2_headsOf_15 : decode cX2_headsOf 15 = .ok (.iconst 3, 1) := by decide +kernel
theorem dX2_headsOf_16 : decode cX2_headsOf 16 = .ok (.iload 4, 2) := by decide +kernel
theorem dX2_headsOf_18 : decode cX2_headsOf 18 = .ok (.imul, 1) := by decide +kernel
theorem dX2_headsOf_19 : decode cX2_headsOf 19 = .ok (.ishr, 1) := by decide +kernel
theorem dX2_headsOf_20 : decode cX2_headsOf 20 = .ok (.bipush 7, 2) := by decide +kernel
theorem dX2_headsOf_22 : decode cX2_headsOf 22 = .ok (.iand, 1) := by decide +kernel
theorem dX2_headsOf_23 : decode cX2_headsOf 23 = .ok (.iload_n 2, 1) := by decide +kernel
theorem dX2_headsOf_24 : decode cX2_headsOf 24 = .ok (.if_icmp .ne 6, 3) := by decide +kernel
theorem dX2_headsOf_27 : decode cX2_headsOf 27 = .ok (.iinc 3 1, 3) := by decide +kernel
theorem dX2_headsOf_30 : decode cX2_headsOf 30 = .ok (.iinc 4 1, 3) := by decide +kernel
theorem dX2_headsOf_33 : decode cX2_headsOf 33 = .ok (.goto (-28), 3) := by decide +kernel
theorem dX2_headsOf_36 : decode cX2_headsOf 36 = .ok (.iload_n 3, 1) := by decide +kernel
theorem dX2_headsOf_37 : decode cX2_headsOf 37 = .ok (.ireturn, 1) := by decide +kernel
set_option maxRecDepth 100000 in
def F_X2_headsOf_b30 (v0 : Nat) (v1 : Int32) (v2 : Int32) (v3 : Int32) (v4 : Int32) (h : Hp) : Option ((Int32 × Int32) ⊕ Int32) :=
  some (.inl (v3, v4 + (1 : Int32)))
set_option maxHeartbeats 4000000 in
set_option maxRecDepth 100000 in
theorem r_X2_headsOf_b30 (v0 : Nat) (v1 : Int32) (v2 : Int32) (v3 : Int32) (v4 : Int32) (h : Hp) {x : Cx} {o : ((Int32 × Int32) ⊕ Int32)} (e : F_X2_headsOf_b30 v0 v1 v2 v3 v4 h = some o) (kI : ∀ z, o = .inl z → V M_X2_headsOf x 0 5 [(0, .ref v0), (1, .int v1), (2, .int v2), (3, .int z.1), (4, .int z.2)] [] h 0 0) (kE36 : ∀ z : Int32, o = .inr z → V M_X2_headsOf x 0 36 [(3, .int z)] [] h 0 0) : V M_X2_headsOf x 0 30 [(0, .ref v0), (1, .int v1), (2, .int v2), (3, .int v3), (4, .int v4)] [] h 0 0 := by
  unfold F_X2_headsOf_b30 at e
  refine V_iinc (pc := 30) (i := 4) (u := v4 + (1 : Int32)) (lv' := [(4, .int (v4 + (1 : Int32))), (0, .ref v0), (1, .int v1), (2, .int v2), (3, .int v3)]) dX2_headsOf_30 rfl rfl (by decide) rfl ?_
  refine V_goto (pc := 33) (tgt := 5) dX2_headsOf_33 (by decide) ?_
  cases e
  exact V_pick [1, 2, 3, 4, 0] rfl (kI _ rfl)
set_option maxRecDepth 100000 in
def F_X2_headsOf_l5 (v0 : Nat) (v1 : Int32) (v2 : Int32) (v3 : Int32) (v4 : Int32) (h : Hp) : Option ((Int32 × Int32) ⊕ Int32) :=
  gd (decide (kd h v0 = 2)) <| (if (zI h v0 5) ≤ v4 then some (.inr v3) else (if ((v1 >>> (((3 : Int32) * v4) &&& 31)) &&& (7 : Int32)) = v2 then F_X2_headsOf_b30 v0 v1 v2 (v3 + (1 : Int32)) v4 h else F_X2_headsOf_b30 v0 v1 v2 v3 v4 h))
set_option maxHeartbeats 4000000 in
set_option maxRecDepth 100000 in
theorem r_X2_headsOf_l5 (v0 : Nat) (v1 : Int32) (v2 : Int32) (v3 : Int32) (v4 : Int32) (h : Hp) {x : Cx} {o : ((Int32 × Int32) ⊕ Int32)} (e : F_X2_headsOf_l5 v0 v1 v2 v3 v4 h = some o) (kI : ∀ z, o = .inl z → V M_X2_headsOf x 0 5 [(0, .ref v0), (1, .int v1), (2, .int v2), (3, .int z.1), (4, .int z.2)] [] h 0 0) (kE36 : ∀ z : Int32, o = .inr z → V M_X2_headsOf x 0 36 [(3, .int z)] [] h 0 0) : V M_X2_headsOf x 0 5 [(0, .ref v0), (1, .int v1), (2, .int v2), (3, .int v3), (4, .int v4)] [] h 0 0 := by
  unfold F_X2_headsOf_l5 at e
  refine V_iload (pc := 5) (i := 4) dX2_headsOf_5 rfl ?_
  refine V_aload_n (pc := 7) (i := 0) dX2_headsOf_7 rfl rfl ?_
  obtain ⟨g1, e⟩ := gd_some e
  refine V_getI (pc := 8) (ci := 2) (k := 5) dX2_headsOf_8 fl_X2_28 rfl (of_decide_eq_true g1) ?_
  refine V_icmp_ge (pc := 11) (tgt := 36) dX2_headsOf_11 (by decide) (fun c3 => ?_) (fun c3 => ?_)
  · rw [if_pos c3] at e
    cases e
    exact V_pick [3] rfl (kE36 _ rfl)
  · rw [if_neg c3] at e
    refine V_pick [0, 1, 2, 3, 4] rfl ?_
    refine V_iload_n (pc := 14) (i := 1) dX2_headsOf_14 rfl rfl ?_
    refine V_iconst (pc := 15) (v := (3 : Int32)) dX2_headsOf_15 (by decide) ?_
    refine V_iload (pc := 16) (i := 4) dX2_headsOf_16 rfl ?_
    refine V_imul (pc := 18) dX2_headsOf_18 ?_
    refine V_ishr (pc := 19) dX2_headsOf_19 ?_
    refine V_bipush (pc := 20) (v := (7 : Int32)) dX2_headsOf_20 (by decide) ?_
    refine V_iand (pc := 22) dX2_headsOf_22 ?_
    refine V_iload_n (pc := 23) (i := 2) dX2_headsOf_23 rfl rfl ?_
    refine V_icmp_ne (pc := 24) (tgt := 30) dX2_headsOf_24 (by decide) (fun c2 => ?_) (fun c2 => ?_)
    · rw [if_neg c2] at e
      exact V_pick [0, 1, 2, 3, 4] rfl (r_X2_headsOf_b30 v0 v1 v2 v3 v4 h e kI kE36)
    · rw [if_pos c2] at e
      refine V_pick [0, 1, 2, 3, 4] rfl ?_
      refine V_iinc (pc := 27) (i := 3) (u := v3 + (1 : Int32)) (lv' := [(3, .int (v3 + (1 : Int32))), (0, .ref v0), (1, .int v1), (2, .int v2), (4, .int v4)]) dX2_headsOf_27 rfl rfl (by decide) rfl ?_
      exact V_pick [1, 2, 3, 0, 4] rfl (r_X2_headsOf_b30 v0 v1 v2 (v3 + (1 : Int32)) v4 h e kI kE36)
set_option maxRecDepth 100000 in
def F_X2_headsOf_b0 (v0 : Nat) (v1 : Int32) (v2 : Int32) (h : Hp) : Option Int32 :=
  ob (iter (fun z : Int32 × Int32 => F_X2_headsOf_l5 v0 v1 v2 z.1 z.2 h) FU ((0 : Int32), (0 : Int32))) (fun w4 => some w4)
set_option maxHeartbeats 4000000 in
set_option maxRecDepth 100000 in
theorem r_X2_headsOf_b0 (v0 : Nat) (v1 : Int32) (v2 : Int32) (h : Hp) {x : Cx} {r : Int32} (e : F_X2_headsOf_b0 v0 v1 v2 h = some r) (hF : Fin9 M_X2_headsOf x (some .int) (some (.int r)) h) : V M_X2_headsOf x 0 0 [(0, .ref v0), (1, .int v1), (2, .int v2)] [] h 0 0 := by
  unfold F_X2_headsOf_b0 at e
  refine V_iconst (pc := 0) (v := (0 : Int32)) dX2_headsOf_0 (by decide) ?_
  refine V_istore_n (pc := 1) (i := 3) (lv' := [(3, .int (0 : Int32)), (0, .ref v0), (1, .int v1), (2, .int v2)]) dX2_headsOf_1 rfl (by decide) rfl ?_
  refine V_iconst (pc := 2) (v := (0 : Int32)) dX2_headsOf_2 (by decide) ?_
  refine V_istore (pc := 3) (i := 4) (lv' := [(4, .int (0 : Int32)), (3, .int (0 : Int32)), (0, .ref v0), (1, .int v1), (2, .int v2)]) dX2_headsOf_3 (by decide) rfl ?_
  refine V_pick [2, 3, 4, 1, 0] rfl ?_
  obtain ⟨y5, g6, e⟩ := ob_some e
  refine iter_V (P := fun z : Int32 × Int32 => V M_X2_headsOf x 0 5 [(0, .ref v0), (1, .int v1), (2, .int v2), (3, .int z.1), (4, .int z.2)] [] h 0 0) (E := fun z : Int32 => V M_X2_headsOf x 0 36 [(3, .int z)] [] h 0 0) (fun z o e9 k1 k2 => r_X2_headsOf_l5 v0 v1 v2 z.1 z.2 h e9 (fun z hz9 => k1 z hz9) (fun z hz9 => k2 _ hz9)) _ _ _ g6 ?_
  clear g6
  obtain ⟨w4, rfl⟩ : ∃ q, q = y5 := ⟨_, rfl⟩
  replace e : (some w4) = some r := e
  show V M_X2_headsOf x 0 36 [(3, .int w4)] [] h 0 0
  refine V_iload_n (pc := 36) (i := 3) dX2_headsOf_36 rfl rfl ?_
  cases e
  exact V_iret (pc := 37) dX2_headsOf_37 hF
def F_X2_headsOf (v0 : Nat) (v1 : Int32) (v2 : Int32) (h : Hp) : Option Int32 := F_X2_headsOf_b0 v0 v1 v2 h
theorem c_X2_headsOf {l : Launch} (v0 : Nat) (v1 : Int32) (v2 : Int32) (h : Hp) {r : Int32} (e : F_X2_headsOf v0 v1 v2 h = some r) : Ct l yX2_headsOf M_X2_headsOf (some .int) 0 [.ref v0, .int v1, .int v2] h 0 0 (some (.int r)) h :=
  Ct_of rfl rfl (fun q => by cases q) (Nat.le_of_ble_eq_true rfl) (fun x _ hF => V_pick [0, 1, 2] rfl (r_X2_headsOf_b0 v0 v1 v2 h e hF))
theorem dX2_notAt_0 : decode cX2_notAt 0 = .ok (.iconst 0, 1) := by decide +kernel
theorem dX2_notAt_1 : decode cX2_notAt 1 = .ok (.istore_n 2, 1) := by decide +kernel
theorem dX2_notAt_2 : decode cX2_notAt 2 = .ok (.iconst 0, 1) := by decide +kernel
theorem dX2_notAt_3 : decode cX2_notAt 3 = .ok (.istore_n 3, 1) := by decide +kernel
theorem dX2_notAt_4 : decode cX2_notAt 4 = .ok (.iload_n 3, 1) := by decide +kernel
theorem dX2_notAt_5 : decode cX2_notAt 5 = .ok (.aload_n 0, 1) := by decide +kernel
theorem dX2_notAt_6 : decode cX2_notAt 6 = .ok (.getfield 28, 3) := by decide +kernel
theorem dX2_notAt_9 : decode cX2_notAt 9 = .ok (.if_icmp .ge 24, 3) := by decide +kernel
theorem dX2_notAt_12 : decode cX2_notAt 12 = .ok (.aload_n 1, 1) := by decide +kernel
theorem dX2_notAt_13 : decode cX2_notAt 13 = .ok (.iload_n 3, 1) := by decide +kernel
theorem dX2_notAt_14 : decode cX2_notAt 14 = .ok (.iaload, 1) := by decide +kernel
theorem dX2_notAt_15 : decode cX2_notAt 15 = .ok (.aload_n 0, 1) := by decide +kernel
theorem dX2_notAt_16 : decode cX2_notAt 16 = .ok (.getfield 34, 3) := by decide +kernel
theorem dX2_notAt_19 : decode cX2_notAt 19 = .ok (.iload_n 3, 1) := by decide +kernel
theorem dX2_notAt_20 : decode cX2_notAt 20 = .ok (.iaload, 1) := by decide +kernel
theorem dX2_notAt_21 : decode cX2_notAt 21 = .ok (.if_icmp .eq 6, 3) := by decide +kernel
theorem dX2_notAt_24 : decode cX2_notAt 24 = .ok (.iinc 2 1, 3) := by decide +kernel
theorem dX2_notAt_27 : decode cX2_notAt 27 = .ok (.iinc 3 1, 3) := by decide +kernel
theorem dX2_notAt_30 : decode cX2_notAt 30 = .ok (.goto (-26), 3) := by decide +kernel
theorem dX2_notAt_33 : decode cX2_notAt 33 = .ok (.iload_n 2, 1) := by decide +kernel
theorem dX2_notAt_34 : decode cX2_notAt 34 = .ok (.ireturn, 1) := by decide +kernel
set_option maxRecDepth 100000 in
def F_X2_notAt_b27 (v0 : Nat) (v1 : Nat) (v2 : Int32) (v3 : Int32) (h : Hp) : Option ((Int32 × Int32) ⊕ Int32) :=
  some (.inl (v2, v3 + (1 : Int32)))
set_option maxHeartbeats 4000000 in
set_option maxRecDepth 100000 in
theorem r_X2_notAt_b27 (v0 : Nat) (v1 : Nat) (v2 : Int32) (v3 : Int32) (h : Hp) {x : Cx} {o : ((Int32 × Int32) ⊕ Int32)} (e : F_X2_notAt_b27 v0 v1 v2 v3 h = some o) (kI : ∀ z, o = .inl z → V M_X2_notAt x 0 4 [(0, .ref v0), (1, .ref v1), (2, .int z.1), (3, .int z.2)] [] h 0 0) (kE33 : ∀ z : Int32, o = .inr z → V M_X2_notAt x 0 33 [(2, .int z)] [] h 0 0) : V M_X2_notAt x 0 27 [(0, .ref v0), (1, .ref v1), (2, .int v2), (3, .int v3)] [] h 0 0 := by
  unfold F_X2_notAt_b27 at e
  refine V_iinc (pc := 27) (i := 3) (u := v3 + (1 : Int32)) (lv' := [(3, .int (v3 + (1 : Int32))), (0, .ref v0), (1, .ref v1), (2, .int v2)]) dX2_notAt_27 rfl rfl (by decide) rfl ?_
  refine V_goto (pc := 30) (tgt := 4) dX2_notAt_30 (by decide) ?_
  cases e
  exact V_pick [1, 2, 3, 0] rfl (kI _ rfl)
set_option maxRecDepth 100000 in
def F_X2_notAt_l4 (v0 : Nat) (v1 : Nat) (v2 : Int32) (v3 : Int32) (h : Hp) : Option ((Int32 × Int32) ⊕ Int32) :=
  gd (decide (kd h v0 = 2)) <| (if (zI h v0 5) ≤ v3 then some (.inr v2) else gd (decide (kd h v1 = 13)) <| gd (ix v3 (zl h v1)) <| ob (zR h v0 7) fun q4 => gd (decide (kd h q4 = 13)) <| gd (ix v3 (zl h q4)) <| (if (zI h v1 (v3).toNatClampNeg) = (zI h q4 (v3).toNatClampNeg) then F_X2_notAt_b27 v0 v1 v2 v3 h else F_X2_notAt_b27 v0 v1 (v2 + (1 : Int32)) v3 h))
set_option maxHeartbeats 4000000 in
set_option maxRecDepth 100000 in
theorem r_X2_notAt_l4 (v0 : Nat) (v1 : Nat) (v2 : Int32) (v3 : Int32) (h : Hp) {x : Cx} {o : ((Int32 × Int32) ⊕ Int32)} (e : F_X2_notAt_l4 v0 v1 v2 v3 h = some o) (kI : ∀ z, o = .inl z → V M_X2_notAt x 0 4 [(0, .ref v0), (1, .ref v1), (2, .int z.1), (3, .int z.2)] [] h 0 0) (kE33 : ∀ z : Int32, o = .inr z → V M_X2_notAt x 0 33 [(2, .int z)] [] h 0 0) : V M_X2_notAt x 0 4 [(0, .ref v0), (1, .ref v1), (2, .int v2), (3, .int v3)] [] h 0 0 := by
  unfold F_X2_notAt_l4 at e
  refine V_iload_n (pc := 4) (i := 3) dX2_notAt_4 rfl rfl ?_
  refine V_aload_n (pc := 5) (i := 0) dX2_notAt_5 rfl rfl ?_
  obtain ⟨g1, e⟩ := gd_some e
  refine V_getI (pc := 6) (ci := 2) (k := 5) dX2_notAt_6 fl_X2_28 rfl (of_decide_eq_true g1) ?_
  refine V_icmp_ge (pc := 9) (tgt := 33) dX2_notAt_9 (by decide) (fun c9 => ?_) (fun c9 => ?_)
  · rw [if_pos c9] at e
    cases e
    exact V_pick [2] rfl (kE33 _ rfl)
  · rw [if_neg c9] at e
    refine V_pick [0, 1, 2, 3] rfl ?_
    refine V_aload_n (pc := 12) (i := 1) dX2_notAt_12 rfl rfl ?_
    refine V_iload_n (pc := 13) (i := 3) dX2_notAt_13 rfl rfl ?_
    obtain ⟨g2, e⟩ := gd_some e
    obtain ⟨g3, e⟩ := gd_some e
    refine V_iald (pc := 14) dX2_notAt_14 (of_decide_eq_true g2) (ix_in g3) ?_
    refine V_aload_n (pc := 15) (i := 0) dX2_notAt_15 rfl rfl ?_
    obtain ⟨q4, g5, e⟩ := ob_some e
    refine V_getR (pc := 16) (ci := 2) (k := 7) (b := q4) dX2_notAt_16 fl_X2_34 rfl (of_decide_eq_true g1) g5 ?_
    refine V_iload_n (pc := 19) (i := 3) dX2_notAt_19 rfl rfl ?_
    obtain ⟨g6, e⟩ := gd_some e
    obtain ⟨g7, e⟩ := gd_some e
    refine V_iald (pc := 20) dX2_notAt_20 (of_decide_eq_true g6) (ix_in g7) ?_
    refine V_icmp_eq (pc := 21) (tgt := 27) dX2_notAt_21 (by decide) (fun c8 => ?_) (fun c8 => ?_)
    · rw [if_pos c8] at e
      exact V_pick [0, 1, 2, 3] rfl (r_X2_notAt_b27 v0 v1 v2 v3 h e kI kE33)
    · rw [if_neg c8] at e
      refine V_pick [0, 1, 2, 3] rfl ?_
      refine V_iinc (pc := 24) (i := 2) (u := v2 + (1 : Int32)) (lv' := [(2, .int (v2 + (1 : Int32))), (0, .ref v0), (1, .ref v1), (3, .int v3)]) dX2_notAt_24 rfl rfl (by decide) rfl ?_
      exact V_pick [1, 2, 0, 3] rfl (r_X2_notAt_b27 v0 v1 (v2 + (1 : Int32)) v3 h e kI kE33)
set_option maxRecDepth 100000 in
def F_X2_notAt_b0 (v0 : Nat) (v1 : Nat) (h : Hp) : Option Int32 :=
  ob (iter (fun z : Int32 × Int32 => F_X2_notAt_l4 v0 v1 z.1 z.2 h) FU ((0 : Int32), (0 : Int32))) (fun w10 => some w10)
set_option maxHeartbeats 4000000 in
set_option maxRecDepth 100000 in
theorem r_X2_notAt_b0 (v0 : Nat) (v1 : Nat) (h : Hp) {x : Cx} {r : Int32} (e : F_X2_notAt_b0 v0 v1 h = some r) (hF : Fin9 M_X2_notAt x (some .int) (some (.int r)) h) : V M_X2_notAt x 0 0 [(0, .ref v0), (1, .ref v1)] [] h 0 0 := by
  unfold F_X2_notAt_b0 at e
  refine V_iconst (pc := 0) (v := (0 : Int32)) dX2_notAt_0 (by decide) ?_
  refine V_istore_n (pc := 1) (i := 2) (lv' := [(2, .int (0 : Int32)), (0, .ref v0), (1, .ref v1)]) dX2_notAt_1 rfl (by decide) rfl ?_
  refine V_iconst (pc := 2) (v := (0 : Int32)) dX2_notAt_2 (by decide) ?_
  refine V_istore_n (pc := 3) (i := 3) (lv' := [(3, .int (0 : Int32)), (2, .int (0 : Int32)), (0, .ref v0), (1, .ref v1)]) dX2_notAt_3 rfl (by decide) rfl ?_
  refine V_pick [2, 3, 1, 0] rfl ?_
  obtain ⟨y11, g12, e⟩ := ob_some e
  refine iter_V (P := fun z : Int32 × Int32 => V M_X2_notAt x 0 4 [(0, .ref v0), (1, .ref v1), (2, .int z.1), (3, .int z.2)] [] h 0 0) (E := fun z : Int32 => V M_X2_notAt x 0 33 [(2, .int z)] [] h 0 0) (fun z o e9 k1 k2 => r_X2_notAt_l4 v0 v1 z.1 z.2 h e9 (fun z hz9 => k1 z hz9) (fun z hz9 => k2 _ hz9)) _ _ _ g12 ?_
  clear g12
  obtain ⟨w10, rfl⟩ : ∃ q, q = y11 := ⟨_, rfl⟩
  replace e : (some w10) = some r := e
  show V M_X2_notAt x 0 33 [(2, .int w10)] [] h 0 0
  refine V_iload_n (pc := 33) (i := 2) dX2_notAt_33 rfl rfl ?_
  cases e
  exact V_iret (pc := 34) dX2_notAt_34 hF
def F_X2_notAt (v0 : Nat) (v1 : Nat) (h : Hp) : Option Int32 := F_X2_notAt_b0 v0 v1 h
theorem c_X2_notAt {l : Launch} (v0 : Nat) (v1 : Nat) (h : Hp) {r : Int32} (e : F_X2_notAt v0 v1 h = some r) : Ct l yX2_notAt M_X2_notAt (some .int) 0 [.ref v0, .ref v1] h 0 0 (some (.int r)) h :=
  Ct_of rfl rfl (fun q => by cases q) (Nat.le_of_ble_eq_true rfl) (fun x _ hF => V_pick [0, 1] rfl (r_X2_notAt_b0 v0 v1 h e hF))
theorem dX2_isOneStep_0 : decode cX2_isOneStep 0 = .ok (.aload_n 0, 1) := by decide +kernel
theorem dX2_isOneStep_1 : decode cX2_isOneStep 1 = .ok (.getfield 15, 3) := by decide +kernel
theorem dX2_isOneStep_4 : decode cX2_isOneStep 4 = .ok (.iload_n 1, 1) := by decide +kernel
theorem dX2_isOneStep_5 : decode cX2_isOneStep 5 = .ok (.iaload, 1) := by decide +kernel
theorem dX2_isOneStep_6 : decode cX2_isOneStep 6 = .ok (.aload_n 0, 1) := by decide +kernel
theorem dX2_isOneStep_7 : decode cX2_isOneStep 7 = .ok (.getfield 15, 3) := by decide +kernel
theorem dX2_isOneStep_10 : decode cX2_isOneStep 10 = .ok (.iload_n 2, 1) := by decide +kernel
theorem dX2_isOneStep_11 : decode cX2_isOneStep 11 = .ok (.iaload, 1) := by decide +kernel
theorem dX2_isOneStep_12 : decode cX2_isOneStep 12 = .ok (.isub, 1) := by decide +kernel
theorem dX2_isOneStep_13 : decode cX2_isOneStep 13 = .ok (.invokestatic 107, 3) := by decide +kernel
theorem dX2_isOneStep_16 : decode cX2_isOneStep 16 = .ok (.aload_n 0, 1) := by decide +kernel
theorem dX2_isOneStep_17 : decode cX2_isOneStep 17 = .ok (.getfield 19, 3) := by decide +kernel
theorem dX2_isOneStep_20 : decode cX2_isOneStep 20 = .ok (.iload_n 1, 1) := by decide +kernel
theorem dX2_isOneStep_21 : decode cX2_isOneStep 21 = .ok (.iaload, 1) := by decide +kernel
theorem dX2_isOneStep_22 : decode cX2_isOneStep 22 = .ok (.aload_n 0, 1) := by decide +kernel
theorem dX2_isOneStep_23 : decode cX2_isOneStep 23 = .ok (.getfield 19, 3) := by decide +kernel
theorem dX2_isOneStep_26 : decode cX2_isOneStep 26 = .ok (.iload_n 2, 1) := by decide +kernel
theorem dX2_isOneStep_27 : decode cX2_isOneStep 27 = .ok (.iaload, 1) := by decide +kernel
theorem dX2_isOneStep_28 : decode cX2_isOneStep 28 = .ok (.isub, 1) := by decide +kernel
theorem dX2_isOneStep_29 : decode cX2_isOneStep 29 = .ok (.invokestatic 107, 3) := by decide +kernel
theorem dX2_isOneStep_32 : decode cX2_isOneStep 32 = .ok (.iadd, 1) := by decide +kernel
theorem dX2_isOneStep_33 : decode cX2_isOneStep 33 = .ok (.iconst 1, 1) := by decide +kernel
theorem dX2_isOneStep_34 : decode cX2_isOneStep 34 = .ok (.if_icmp .ne 7, 3) := by decide +kernel
theorem dX2_isOneStep_37 : decode cX2_isOneStep 37 = .ok (.iconst 1, 1) := by decide +kernel
theorem dX2_isOneStep_38 : decode cX2_isOneStep 38 = .ok (.goto 4, 3) := by decide +kernel
theorem dX2_isOneStep_41 : decode cX2_isOneStep 41 = .ok (.iconst 0, 1) := by decide +kernel
theorem dX2_isOneStep_42 : decode cX2_isOneStep 42 = .ok (.ireturn, 1) := by decide +kernel
set_option maxRecDepth 100000 in
def F_X2_isOneStep_b42 (t0 : Int32) (h : Hp) : Option Int32 :=
  gd (decide (t0 = 0 ∨ t0 = 1)) <| some t0
set_option maxHeartbeats 4000000 in
set_option maxRecDepth 100000 in
theorem r_X2_isOneStep_b42 (t0 : Int32) (h : Hp) {x : Cx} {r : Int32} (e : F_X2_isOneStep_b42 t0 h = some r) (hF : Fin9 M_X2_isOneStep x (some .boolean) (some (.int r)) h) : V M_X2_isOneStep x 1 42 [] [.int t0] h 0 0 := by
  unfold F_X2_isOneStep_b42 at e
  obtain ⟨g18, e⟩ := gd_some e
  cases e
  exact V_zret (pc := 42) dX2_isOneStep_42 (z01 (of_decide_eq_true g18)) hF
set_option maxRecDepth 100000 in
def F_X2_isOneStep_b0 (v0 : Nat) (v1 : Int32) (v2 : Int32) (h : Hp) : Option Int32 :=
  gd (decide (kd h v0 = 2)) <| ob (zR h v0 1) fun q2 => gd (decide (kd h q2 = 13)) <| gd (ix v1 (zl h q2)) <| ob (zR h v0 1) fun q6 => gd (decide (kd h q6 = 13)) <| gd (ix v2 (zl h q6)) <| ob (zR h v0 2) fun q10 => gd (decide (kd h q10 = 13)) <| gd (ix v1 (zl h q10)) <| ob (zR h v0 2) fun q14 => gd (decide (kd h q14 = 13)) <| gd (ix v2 (zl h q14)) <| (if ((jabs ((zI h q2 (v1).toNatClampNeg) - (zI h q6 (v2).toNatClampNeg))) + (jabs ((zI h q10 (v1).toNatClampNeg) - (zI h q14 (v2).toNatClampNeg)))) = (1 : Int32) then F_X2_isOneStep_b42 (1 : Int32) h else F_X2_isOneStep_b42 (0 : Int32) h)
set_option maxHeartbeats 4000000 in
set_option maxRecDepth 100000 in
theorem r_X2_isOneStep_b0 (v0 : Nat) (v1 : Int32) (v2 : Int32) (h : Hp) {x : Cx} {r : Int32} (e : F_X2_isOneStep_b0 v0 v1 v2 h = some r) (hF : Fin9 M_X2_isOneStep x (some .boolean) (some (.int r)) h) : V M_X2_isOneStep x 1 0 [(0, .ref v0), (1, .int v1), (2, .int v2)] [] h 0 0 := by
  unfold F_X2_isOneStep_b0 at e
  refine V_aload_n (pc := 0) (i := 0) dX2_isOneStep_0 rfl rfl ?_
  obtain ⟨g1, e⟩ := gd_some e
  obtain ⟨q2, g3, e⟩ := ob_some e
  refine V_getR (pc := 1) (ci := 2) (k := 1) (b := q2) dX2_isOneStep_1 fl_X2_15 rfl (of_decide_eq_true g1) g3 ?_
  refine V_iload_n (pc := 4) (i := 1) dX2_isOneStep_4 rfl rfl ?_
  obtain ⟨g4, e⟩ := gd_some e
  obtain ⟨g5, e⟩ := gd_some e
  refine V_iald (pc := 5) dX2_isOneStep_5 (of_decide_eq_true g4) (ix_in g5) ?_
  refine V_aload_n (pc := 6) (i := 0) dX2_isOneStep_6 rfl rfl ?_
  obtain ⟨q6, g7, e⟩ := ob_some e
  refine V_getR (pc := 7) (ci := 2) (k := 1) (b := q6) dX2_isOneStep_7 fl_X2_15 rfl (of_decide_eq_true g1) g7 ?_
  refine V_iload_n (pc := 10) (i := 2) dX2_isOneStep_10 rfl rfl ?_
  obtain ⟨g8, e⟩ := gd_some e
  obtain ⟨g9, e⟩ := gd_some e
  refine V_iald (pc := 11) dX2_isOneStep_11 (of_decide_eq_true g8) (ix_in g9) ?_
  refine V_isub (pc := 12) dX2_isOneStep_12 ?_
  refine V_abs (pc := 13) dX2_isOneStep_13 wm_X2_107 (by decide) (Nat.le_of_ble_eq_true rfl) ?_
  refine V_aload_n (pc := 16) (i := 0) dX2_isOneStep_16 rfl rfl ?_
  obtain ⟨q10, g11, e⟩ := ob_some e
  refine V_getR (pc := 17) (ci := 2) (k := 2) (b := q10) dX2_isOneStep_17 fl_X2_19 rfl (of_decide_eq_true g1) g11 ?_
  refine V_iload_n (pc := 20) (i := 1) dX2_isOneStep_20 rfl rfl ?_
  obtain ⟨g12, e⟩ := gd_some e
  obtain ⟨g13, e⟩ := gd_some e
  refine V_iald (pc := 21) dX2_isOneStep_21 (of_decide_eq_true g12) (ix_in g13) ?_
  refine V_aload_n (pc := 22) (i := 0) dX2_isOneStep_22 rfl rfl ?_
  obtain ⟨q14, g15, e⟩ := ob_some e
  refine V_getR (pc := 23) (ci := 2) (k := 2) (b := q14) dX2_isOneStep_23 fl_X2_19 rfl (of_decide_eq_true g1) g15 ?_
  refine V_iload_n (pc := 26) (i := 2) dX2_isOneStep_26 rfl rfl ?_
  obtain ⟨g16, e⟩ := gd_some e
  obtain ⟨g17, e⟩ := gd_some e
  refine V_iald (pc := 27) dX2_isOneStep_27 (of_decide_eq_true g16) (ix_in g17) ?_
  refine V_isub (pc := 28) dX2_isOneStep_28 ?_
  refine V_abs (pc := 29) dX2_isOneStep_29 wm_X2_107 (by decide) (Nat.le_of_ble_eq_true rfl) ?_
  refine V_iadd (pc := 32) dX2_isOneStep_32 ?_
  refine V_iconst (pc := 33) (v := (1 : Int32)) dX2_isOneStep_33 (by decide) ?_
  refine V_icmp_ne (pc := 34) (tgt := 41) dX2_isOneStep_34 (by decide) (fun c19 => ?_) (fun c19 => ?_)
  · rw [if_neg c19] at e
    refine V_pick [] rfl ?_
    refine V_iconst (pc := 41) (v := (0 : Int32)) dX2_isOneStep_41 (by decide) ?_
    exact V_pick [] rfl (r_X2_isOneStep_b42 (0 : Int32) h e hF)
  · rw [if_pos c19] at e
    refine V_pick [] rfl ?_
    refine V_iconst (pc := 37) (v := (1 : Int32)) dX2_isOneStep_37 (by decide) ?_
    refine V_goto (pc := 38) (tgt := 42) dX2_isOneStep_38 (by decide) ?_
    exact V_pick [] rfl (r_X2_isOneStep_b42 (1 : Int32) h e hF)
def F_X2_isOneStep (v0 : Nat) (v1 : Int32) (v2 : Int32) (h : Hp) : Option Int32 := F_X2_isOneStep_b0 v0 v1 v2 h
theorem c_X2_isOneStep {l : Launch} (v0 : Nat) (v1 : Int32) (v2 : Int32) (h : Hp) {r : Int32} (e : F_X2_isOneStep v0 v1 v2 h = some r) : Ct l yX2_isOneStep M_X2_isOneStep (some .boolean) 1 [.ref v0, .int v1, .int v2] h 0 0 (some (.int r)) h :=
  Ct_of rfl rfl (fun q => by cases q) (Nat.le_of_ble_eq_true rfl) (fun x _ hF => V_pick [0, 1, 2] rfl (r_X2_isOneStep_b0 v0 v1 v2 h e hF))
theorem dX3_countFrom_0 : decode cX3_countFrom 0 = .ok (.aload_n 0, 1) := by decide +kernel
theorem dX3_countFrom_1 : decode cX3_countFrom 1 = .ok (.aload_n 1, 1) := by decide +kernel
theorem dX3_countFrom_2 : decode cX3_countFrom 2 = .ok (.getfield 25, 3) := by decide +kernel
theorem dX3_countFrom_5 : decode cX3_countFrom 5 = .ok (.putfield 15, 3) := by decide +kernel
theorem dX3_countFrom_8 : decode cX3_countFrom 8 = .ok (.aload_n 0, 1) := by decide +kernel
theorem dX3_countFrom_9 : decode cX3_countFrom 9 = .ok (.aload_n 1, 1) := by decide +kernel
theorem dX3_countFrom_10 : decode cX3_countFrom 10 = .ok (.getfield 28, 3) := by decide +kernel
theorem dX3_countFrom_13 : decode cX3_countFrom 13 = .ok (.putfield 19, 3) := by decide +kernel
theorem dX3_countFrom_16 : decode cX3_countFrom 16 = .ok (.aload_n 0, 1) := by decide +kernel
theorem dX3_countFrom_17 : decode cX3_countFrom 17 = .ok (.aload_n 1, 1) := by decide +kernel
theorem dX3_countFrom_18 : decode cX3_countFrom 18 = .ok (.getfield 29, 3) := by decide +kernel
theorem dX3_countFrom_21 : decode cX3_countFrom 21 = .ok (.getfield 32, 3) := by decide +kernel
theorem dX3_countFrom_24 : decode cX3_countFrom 24 = .ok (.putfield 22, 3) := by decide +kernel
theorem dX3_countFrom_27 : decode cX3_countFrom 27 = .ok (.return_, 1) := by decide +kernel
set_option maxRecDepth 100000 in
def F_X3_countFrom_b0 (v0 : Nat) (v1 : Nat) (h : Hp) : Option (Unit × Hp) :=
  gd (decide (kd h v1 = 2)) <| gd (decide (kd h v0 = 3)) <| ob (zR (setI (setI h v0 2 (zI h v1 0)) v0 3 (zI (setI h v0 2 (zI h v1 0)) v1 5)) v1 9) fun q3 => gd (decide (kd (setI (setI h v0 2 (zI h v1 0)) v0 3 (zI (setI h v0 2 (zI h v1 0)) v1 5)) q3 = 7)) <| some ((), setI (setI (setI h v0 2 (zI h v1 0)) v0 3 (zI (setI h v0 2 (zI h v1 0)) v1 5)) v0 4 (zI (setI (setI h v0 2 (zI h v1 0)) v0 3 (zI (setI h v0 2 (zI h v1 0)) v1 5)) q3 0))
set_option maxHeartbeats 4000000 in
set_option maxRecDepth 100000 in
theorem r_X3_countFrom_b0 (v0 : Nat) (v1 : Nat) (h : Hp) {x : Cx} {r : Unit} {hz : Hp} (e : F_X3_countFrom_b0 v0 v1 h = some (r, hz)) (hF : Fin9 M_X3_countFrom x none none hz) : V M_X3_countFrom x 0 0 [(0, .ref v0), (1, .ref v1)] [] h 0 0 := by
  unfold F_X3_countFrom_b0 at e
  refine V_aload_n (pc := 0) (i := 0) dX3_countFrom_0 rfl rfl ?_
  refine V_aload_n (pc := 1) (i := 1) dX3_countFrom_1 rfl rfl ?_
  obtain ⟨g1, e⟩ := gd_some e
  refine V_getI (pc := 2) (ci := 2) (k := 0) dX3_countFrom_2 fl_X3_25 rfl (of_decide_eq_true g1) ?_
  obtain ⟨g2, e⟩ := gd_some e
  refine V_putI (pc := 5) (ci := 3) (k := 2) dX3_countFrom_5 fp_X3_15 rfl (of_decide_eq_true g2) ?_
  refine V_aload_n (pc := 8) (i := 0) dX3_countFrom_8 rfl rfl ?_
  refine V_aload_n (pc := 9) (i := 1) dX3_countFrom_9 rfl rfl ?_
  refine V_getI (pc := 10) (ci := 2) (k := 5) dX3_countFrom_10 fl_X3_28 rfl (of_decide_eq_true g1) ?_
  refine V_putI (pc := 13) (ci := 3) (k := 3) dX3_countFrom_13 fp_X3_19 rfl (of_decide_eq_true g2) ?_
  refine V_aload_n (pc := 16) (i := 0) dX3_countFrom_16 rfl rfl ?_
  refine V_aload_n (pc := 17) (i := 1) dX3_countFrom_17 rfl rfl ?_
  obtain ⟨q3, g4, e⟩ := ob_some e
  refine V_getR (pc := 18) (ci := 2) (k := 9) (b := q3) dX3_countFrom_18 fl_X3_29 rfl (of_decide_eq_true g1) g4 ?_
  obtain ⟨g5, e⟩ := gd_some e
  refine V_getI (pc := 21) (ci := 7) (k := 0) dX3_countFrom_21 fl_X3_32 rfl (of_decide_eq_true g5) ?_
  refine V_putI (pc := 24) (ci := 3) (k := 4) dX3_countFrom_24 fp_X3_22 rfl (of_decide_eq_true g2) ?_
  cases e
  exact V_vret (pc := 27) dX3_countFrom_27 hF
def F_X3_countFrom (v0 : Nat) (v1 : Nat) (h : Hp) : Option (Unit × Hp) := F_X3_countFrom_b0 v0 v1 h
theorem c_X3_countFrom {l : Launch} (v0 : Nat) (v1 : Nat) (h : Hp) {r : Unit} {hz : Hp} (e : F_X3_countFrom v0 v1 h = some (r, hz)) : Ct l yX3_countFrom M_X3_countFrom none 0 [.ref v0, .ref v1] h 0 0 none hz :=
  Ct_of rfl rfl (fun q => by cases q) (Nat.le_of_ble_eq_true rfl) (fun x _ hF => V_pick [0, 1] rfl (r_X3_countFrom_b0 v0 v1 h e hF))
theorem dX3_put_0 : decode cX3_put 0 = .ok (.aload_n 0, 1) := by decide +kernel
theorem dX3_put_1 : decode cX3_put 1 = .ok (.getfield 105, 3) := by decide +kernel
theorem dX3_put_4 : decode cX3_put 4 = .ok (.iconst 4, 1) := by decide +kernel
theorem dX3_put_5 : decode cX3_put 5 = .ok (.imul, 1) := by decide +kernel
theorem dX3_put_6 : decode cX3_put 6 = .ok (.iload_n 1, 1) := by decide +kernel
theorem dX3_put_7 : decode cX3_put 7 = .ok (.iadd, 1) := by decide +kernel
theorem dX3_put_8 : decode cX3_put 8 = .ok (.istore_n 3, 1) := by decide +kernel
theorem dX3_put_9 : decode cX3_put 9 = .ok (.iload_n 3, 1) := by decide +kernel
theorem dX3_put_10 : decode cX3_put 10 = .ok (.aload_n 0, 1) := by decide +kernel
theorem dX3_put_11 : decode cX3_put 11 = .ok (.getfield 11, 3) := by decide +kernel
theorem dX3_put_14 : decode cX3_put 14 = .ok (.arraylength, 1) := by decide +kernel
theorem dX3_put_15 : decode cX3_put 15 = .ok (.if_icmp .ge 10, 3) := by decide +kernel
theorem dX3_put_18 : decode cX3_put 18 = .ok (.aload_n 0, 1) := by decide +kernel
theorem dX3_put_19 : decode cX3_put 19 = .ok (.getfield 11, 3) := by decide +kernel
theorem dX3_put_22 : decode cX3_put 22 = .ok (.iload_n 3, 1) := by decide +kernel
theorem dX3_put_23 : decode cX3_put 23 = .ok (.iload_n 2, 1) := by decide +kernel
theorem dX3_put_24 : decode cX3_put 24 = .ok (.iastore, 1) := by decide +kernel
theorem dX3_put_25 : decode cX3_put 25 = .ok (.return_, 1) := by decide +kernel
set_option maxRecDepth 100000 in
def F_X3_put_b25  (h : Hp) : Option (Unit × Hp) :=
  some ((), h)
set_option maxHeartbeats 4000000 in
set_option maxRecDepth 100000 in
theorem r_X3_put_b25  (h : Hp) {x : Cx} {r : Unit} {hz : Hp} (e : F_X3_put_b25  h = some (r, hz)) (hF : Fin9 M_X3_put x none none hz) : V M_X3_put x 0 25 [] [] h 0 0 := by
  unfold F_X3_put_b25 at e
  cases e
  exact V_vret (pc := 25) dX3_put_25 hF
set_option maxRecDepth 100000 in
def F_X3_put_b0 (v0 : Nat) (v1 : Int32) (v2 : Int32) (h : Hp) : Option (Unit × Hp) :=
  gd (decide (kd h v0 = 3)) <| ob (zR h v0 1) fun q2 => gd (decide (kd h q2 = 13)) <| (if (Int32.ofNat (zl h q2)) ≤ (((zI h v0 0) * (4 : Int32)) + v1) then F_X3_put_b25 h else ob (zR h v0 1) fun q5 => gd (decide (kd h q5 = 13)) <| gd (ix (((zI h v0 0) * (4 : Int32)) + v1) (zl h q5)) <| F_X3_put_b25 (setI h q5 (((zI h v0 0) * (4 : Int32)) + v1).toNatClampNeg v2))
set_option maxHeartbeats 4000000 in
set_option maxRecDepth 100000 in
theorem r_X3_put_b0 (v0 : Nat) (v1 : Int32) (v2 : Int32) (h : Hp) {x : Cx} {r : Unit} {hz : Hp} (e : F_X3_put_b0 v0 v1 v2 h = some (r, hz)) (hF : Fin9 M_X3_put x none none hz) : V M_X3_put x 0 0 [(0, .ref v0), (1, .int v1), (2, .int v2)] [] h 0 0 := by
  unfold F_X3_put_b0 at e
  refine V_aload_n (pc := 0) (i := 0) dX3_put_0 rfl rfl ?_
  obtain ⟨g1, e⟩ := gd_some e
  refine V_getI (pc := 1) (ci := 3) (k := 0) dX3_put_1 fl_X3_105 rfl (of_decide_eq_true g1) ?_
  refine V_iconst (pc := 4) (v := (4 : Int32)) dX3_put_4 (by decide) ?_
  refine V_imul (pc := 5) dX3_put_5 ?_
  refine V_iload_n (pc := 6) (i := 1) dX3_put_6 rfl rfl ?_
  refine V_iadd (pc := 7) dX3_put_7 ?_
  refine V_istore_n (pc := 8) (i := 3) (lv' := [(3, .int (((zI h v0 0) * (4 : Int32)) + v1)), (0, .ref v0), (1, .int v1), (2, .int v2)]) dX3_put_8 rfl (by decide) rfl ?_
  refine V_iload_n (pc := 9) (i := 3) dX3_put_9 rfl rfl ?_
  refine V_aload_n (pc := 10) (i := 0) dX3_put_10 rfl rfl ?_
  obtain ⟨q2, g3, e⟩ := ob_some e
  refine V_getR (pc := 11) (ci := 3) (k := 1) (b := q2) dX3_put_11 fl_X3_11 rfl (of_decide_eq_true g1) g3 ?_
  obtain ⟨g4, e⟩ := gd_some e
  refine V_alen (pc := 14) (k := 13) dX3_put_14 (of_decide_eq_true g4) (by decide) ?_
  refine V_icmp_ge (pc := 15) (tgt := 25) dX3_put_15 (by decide) (fun c9 => ?_) (fun c9 => ?_)
  · rw [if_pos c9] at e
    exact V_pick [] rfl (r_X3_put_b25 h e hF)
  · rw [if_neg c9] at e
    refine V_pick [1, 3, 0] rfl ?_
    refine V_aload_n (pc := 18) (i := 0) dX3_put_18 rfl rfl ?_
    obtain ⟨q5, g6, e⟩ := ob_some e
    refine V_getR (pc := 19) (ci := 3) (k := 1) (b := q5) dX3_put_19 fl_X3_11 rfl (of_decide_eq_true g1) g6 ?_
    refine V_iload_n (pc := 22) (i := 3) dX3_put_22 rfl rfl ?_
    refine V_iload_n (pc := 23) (i := 2) dX3_put_23 rfl rfl ?_
    obtain ⟨g7, e⟩ := gd_some e
    obtain ⟨g8, e⟩ := gd_some e
    refine V_iast (pc := 24) dX3_put_24 (of_decide_eq_true g7) (ix_in g8) ?_
    exact V_pick [] rfl (r_X3_put_b25 (setI h q5 (((zI h v0 0) * (4 : Int32)) + v1).toNatClampNeg v2) e hF)
def F_X3_put (v0 : Nat) (v1 : Int32) (v2 : Int32) (h : Hp) : Option (Unit × Hp) := F_X3_put_b0 v0 v1 v2 h
theorem c_X3_put {l : Launch} (v0 : Nat) (v1 : Int32) (v2 : Int32) (h : Hp) {r : Unit} {hz : Hp} (e : F_X3_put v0 v1 v2 h = some (r, hz)) : Ct l yX3_put M_X3_put none 0 [.ref v0, .int v1, .int v2] h 0 0 none hz :=
  Ct_of rfl rfl (fun q => by cases q) (Nat.le_of_ble_eq_true rfl) (fun x _ hF => V_pick [0, 1, 2] rfl (r_X3_put_b0 v0 v1 v2 h e hF))
theorem dX4_reach_0 : decode cX4_reach 0 = .ok (.aload_n 0, 1) := by decide +kernel
theorem dX4_reach_1 : decode cX4_reach 1 = .ok (.getfield 9, 3) := by decide +kernel
theorem dX4_reach_4 : decode cX4_reach 4 = .ok (.iload_n 1, 1) := by decide +kernel
theorem dX4_reach_5 : decode cX4_reach 5 = .ok (.iaload, 1) := by decide +kernel
theorem dX4_reach_6 : decode cX4_reach 6 = .ok (.iconst (-1), 1) := by decide +kernel
theorem dX4_reach_7 : decode cX4_reach 7 = .ok (.if_icmp .ne 42, 3) := by decide +kernel
theorem dX4_reach_10 : decode cX4_reach 10 = .ok (.aload_n 0, 1) := by decide +kernel
theorem dX4_reach_11 : decode cX4_reach 11 = .ok (.getfield 18, 3) := by decide +kernel
theorem dX4_reach_14 : decode cX4_reach 14 = .ok (.aload_n 0, 1) := by decide +kernel
theorem dX4_reach_15 : decode cX4_reach 15 = .ok (.getfield 15, 3) := by decide +kernel
theorem dX4_reach_18 : decode cX4_reach 18 = .ok (.arraylength, 1) := by decide +kernel
theorem dX4_reach_19 : decode cX4_reach 19 = .ok (.if_icmp .ge 30, 3) := by decide +kernel
theorem dX4_reach_22 : decode cX4_reach 22 = .ok (.aload_n 0, 1) := by decide +kernel
theorem dX4_reach_23 : decode cX4_reach 23 = .ok (.getfield 9, 3) := by decide +kernel
theorem dX4_reach_26 : decode cX4_reach 26 = .ok (.iload_n 1, 1) := by decide +kernel
theorem dX4_reach_27 : decode cX4_reach 27 = .ok (.iload_n 2, 1) := by decide +kernel
theorem dX4_reach_28 : decode cX4_reach 28 = .ok (.iastore, 1) := by decide +kernel
theorem dX4_reach_29 : decode cX4_reach 29 = .ok (.aload_n 0, 1) := by decide +kernel
theorem dX4_reach_30 : decode cX4_reach 30 = .ok (.getfield 15, 3) := by decide +kernel
theorem dX4_reach_33 : decode cX4_reach 33 = .ok (.aload_n 0, 1) := by decide +kernel
theorem dX4_reach_34 : decode cX4_reach 34 = .ok (.getfield 18, 3) := by decide +kernel
theorem dX4_reach_37 : decode cX4_reach 37 = .ok (.iload_n 1, 1) := by decide +kernel
theorem dX4_reach_38 : decode cX4_reach 38 = .ok (.iastore, 1) := by decide +kernel
theorem dX4_reach_39 : decode cX4_reach 39 = .ok (.aload_n 0, 1) := by decide +kernel
theorem dX4_reach_40 : decode cX4_reach 40 = .ok (.dup, 1) := by decide +kernel
theorem dX4_reach_41 : decode cX4_reach 41 = .ok (.getfield 18, 3) := by decide +kernel
theorem dX4_reach_44 : decode cX4_reach 44 = .ok (.iconst 1, 1) := by decide +kernel
theorem dX4_reach_45 : decode cX4_reach 45 = .ok (.iadd, 1) := by decide +kernel
theorem dX4_reach_46 : decode cX4_reach 46 = .ok (.putfield 18, 3) := by decide +kernel
theorem dX4_reach_49 : decode cX4_reach 49 = .ok (.return_, 1) := by decide +kernel
set_option maxRecDepth 100000 in
def F_X4_reach_b49  (h : Hp) : Option (Unit × Hp) :=
  some ((), h)
set_option maxHeartbeats 4000000 in
set_option maxRecDepth 100000 in
theorem r_X4_reach_b49  (h : Hp) {x : Cx} {r : Unit} {hz : Hp} (e : F_X4_reach_b49  h = some (r, hz)) (hF : Fin9 M_X4_reach x none none hz) : V M_X4_reach x 0 49 [] [] h 0 0 := by
  unfold F_X4_reach_b49 at e
  cases e
  exact V_vret (pc := 49) dX4_reach_49 hF
set_option maxRecDepth 100000 in
def F_X4_reach_b0 (v0 : Nat) (v1 : Int32) (v2 : Int32) (h : Hp) : Option (Unit × Hp) :=
  gd (decide (kd h v0 = 4)) <| ob (zR h v0 0) fun q2 => gd (decide (kd h q2 = 13)) <| gd (ix v1 (zl h q2)) <| (if (zI h q2 (v1).toNatClampNeg) = (-1 : Int32) then ob (zR h v0 1) fun q6 => gd (decide (kd h q6 = 13)) <| (if (Int32.ofNat (zl h q6)) ≤ (zI h v0 2) then F_X4_reach_b49 h else ob (zR h v0 0) fun q9 => gd (decide (kd h q9 = 13)) <| gd (ix v1 (zl h q9)) <| ob (zR (setI h q9 (v1).toNatClampNeg v2) v0 1) fun q13 => gd (decide (kd (setI h q9 (v1).toNatClampNeg v2) q13 = 13)) <| gd (ix (zI (setI h q9 (v1).toNatClampNeg v2) v0 2) (zl (setI h q9 (v1).toNatClampNeg v2) q13)) <| F_X4_reach_b49 (setI (setI (setI h q9 (v1).toNatClampNeg v2) q13 (zI (setI h q9 (v1).toNatClampNeg v2) v0 2).toNatClampNeg v1) v0 2 ((zI (setI (setI h q9 (v1).toNatClampNeg v2) q13 (zI (setI h q9 (v1).toNatClampNeg v2) v0 2).toNatClampNeg v1) v0 2) + (1 : Int32)))) else F_X4_reach_b49 h)
set_option maxHeartbeats 4000000 in
set_option maxRecDepth 100000 in
theorem r_X4_reach_b0 (v0 : Nat) (v1 : Int32) (v2 : Int32) (h : Hp) {x : Cx} {r : Unit} {hz : Hp} (e : F_X4_reach_b0 v0 v1 v2 h = some (r, hz)) (hF : Fin9 M_X4_reach x none none hz) : V M_X4_reach x 0 0 [(0, .ref v0), (1, .int v1), (2, .int v2)] [] h 0 0 := by
  unfold F_X4_reach_b0 at e
  refine V_aload_n (pc := 0) (i := 0) dX4_reach_0 rfl rfl ?_
  obtain ⟨g1, e⟩ := gd_some e
  obtain ⟨q2, g3, e⟩ := ob_some e
  refine V_getR (pc := 1) (ci := 4) (k := 0) (b := q2) dX4_reach_1 fl_X4_9 rfl (of_decide_eq_true g1) g3 ?_
  refine V_iload_n (pc := 4) (i := 1) dX4_reach_4 rfl rfl ?_
  obtain ⟨g4, e⟩ := gd_some e
  obtain ⟨g5, e⟩ := gd_some e
  refine V_iald (pc := 5) dX4_reach_5 (of_decide_eq_true g4) (ix_in g5) ?_
  refine V_iconst (pc := 6) (v := (-1 : Int32)) dX4_reach_6 (by decide) ?_
  refine V_icmp_ne (pc := 7) (tgt := 49) dX4_reach_7 (by decide) (fun c18 => ?_) (fun c18 => ?_)
  · rw [if_neg c18] at e
    exact V_pick [] rfl (r_X4_reach_b49 h e hF)
  · rw [if_pos c18] at e
    refine V_pick [0, 1, 2] rfl ?_
    refine V_aload_n (pc := 10) (i := 0) dX4_reach_10 rfl rfl ?_
    refine V_getI (pc := 11) (ci := 4) (k := 2) dX4_reach_11 fl_X4_18 rfl (of_decide_eq_true g1) ?_
    refine V_aload_n (pc := 14) (i := 0) dX4_reach_14 rfl rfl ?_
    obtain ⟨q6, g7, e⟩ := ob_some e
    refine V_getR (pc := 15) (ci := 4) (k := 1) (b := q6) dX4_reach_15 fl_X4_15 rfl (of_decide_eq_true g1) g7 ?_
    obtain ⟨g8, e⟩ := gd_some e
    refine V_alen (pc := 18) (k := 13) dX4_reach_18 (of_decide_eq_true g8) (by decide) ?_
    refine V_icmp_ge (pc := 19) (tgt := 49) dX4_reach_19 (by decide) (fun c17 => ?_) (fun c17 => ?_)
    · rw [if_pos c17] at e
      exact V_pick [] rfl (r_X4_reach_b49 h e hF)
    · rw [if_neg c17] at e
      refine V_pick [0, 1, 2] rfl ?_
      refine V_aload_n (pc := 22) (i := 0) dX4_reach_22 rfl rfl ?_
      obtain ⟨q9, g10, e⟩ := ob_some e
      refine V_getR (pc := 23) (ci := 4) (k := 0) (b := q9) dX4_reach_23 fl_X4_9 rfl (of_decide_eq_true g1) g10 ?_
      refine V_iload_n (pc := 26) (i := 1) dX4_reach_26 rfl rfl ?_
      refine V_iload_n (pc := 27) (i := 2) dX4_reach_27 rfl rfl ?_
      obtain ⟨g11, e⟩ := gd_some e
      obtain ⟨g12, e⟩ := gd_some e
      refine V_iast (pc := 28) dX4_reach_28 (of_decide_eq_true g11) (ix_in g12) ?_
      refine V_aload_n (pc := 29) (i := 0) dX4_reach_29 rfl rfl ?_
      obtain ⟨q13, g14, e⟩ := ob_some e
      refine V_getR (pc := 30) (ci := 4) (k := 1) (b := q13) dX4_reach_30 fl_X4_15 rfl (of_decide_eq_true g1) g14 ?_
      refine V_aload_n (pc := 33) (i := 0) dX4_reach_33 rfl rfl ?_
      refine V_getI (pc := 34) (ci := 4) (k := 2) dX4_reach_34 fl_X4_18 rfl (of_decide_eq_true g1) ?_
      refine V_iload_n (pc := 37) (i := 1) dX4_reach_37 rfl rfl ?_
      obtain ⟨g15, e⟩ := gd_some e
      obtain ⟨g16, e⟩ := gd_some e
      refine V_iast (pc := 38) dX4_reach_38 (of_decide_eq_true g15) (ix_in g16) ?_
      refine V_aload_n (pc := 39) (i := 0) dX4_reach_39 rfl rfl ?_
      refine V_dup (pc := 40) dX4_reach_40 rfl ?_
      refine V_getI (pc := 41) (ci := 4) (k := 2) dX4_reach_41 fl_X4_18 rfl (of_decide_eq_true g1) ?_
      refine V_iconst (pc := 44) (v := (1 : Int32)) dX4_reach_44 (by decide) ?_
      refine V_iadd (pc := 45) dX4_reach_45 ?_
      refine V_putI (pc := 46) (ci := 4) (k := 2) dX4_reach_46 fp_X4_18 rfl (of_decide_eq_true g1) ?_
      exact V_pick [] rfl (r_X4_reach_b49 (setI (setI (setI h q9 (v1).toNatClampNeg v2) q13 (zI (setI h q9 (v1).toNatClampNeg v2) v0 2).toNatClampNeg v1) v0 2 ((zI (setI (setI h q9 (v1).toNatClampNeg v2) q13 (zI (setI h q9 (v1).toNatClampNeg v2) v0 2).toNatClampNeg v1) v0 2) + (1 : Int32))) e hF)
def F_X4_reach (v0 : Nat) (v1 : Int32) (v2 : Int32) (h : Hp) : Option (Unit × Hp) := F_X4_reach_b0 v0 v1 v2 h
theorem c_X4_reach {l : Launch} (v0 : Nat) (v1 : Int32) (v2 : Int32) (h : Hp) {r : Unit} {hz : Hp} (e : F_X4_reach v0 v1 v2 h = some (r, hz)) : Ct l yX4_reach M_X4_reach none 0 [.ref v0, .int v1, .int v2] h 0 0 none hz :=
  Ct_of rfl rfl (fun q => by cases q) (Nat.le_of_ble_eq_true rfl) (fun x _ hF => V_pick [0, 1, 2] rfl (r_X4_reach_b0 v0 v1 v2 h e hF))
theorem dX4_sent_0 : decode cX4_sent 0 = .ok (.iconst 3, 1) := by decide +kernel
theorem dX4_sent_1 : decode cX4_sent 1 = .ok (.iload_n 1, 1) := by decide +kernel
theorem dX4_sent_2 : decode cX4_sent 2 = .ok (.imul, 1) := by decide +kernel
theorem dX4_sent_3 : decode cX4_sent 3 = .ok (.istore_n 3, 1) := by decide +kernel
theorem dX4_sent_4 : decode cX4_sent 4 = .ok (.iload_n 0, 1) := by decide +kernel
theorem dX4_sent_5 : decode cX4_sent 5 = .ok (.bipush 7, 2) := by decide +kernel
theorem dX4_sent_7 : decode cX4_sent 7 = .ok (.iload_n 3, 1) := by decide +kernel
theorem dX4_sent_8 : decode cX4_sent 8 = .ok (.ishl, 1) := by decide +kernel
theorem dX4_sent_9 : decode cX4_sent 9 = .ok (.iconst (-1), 1) := by decide +kernel
theorem dX4_sent_10 : decode cX4_sent 10 = .ok (.ixor, 1) := by decide +kernel
theorem dX4_sent_11 : decode cX4_sent 11 = .ok (.iand, 1) := by decide +kernel
theorem dX4_sent_12 : decode cX4_sent 12 = .ok (.iload_n 2, 1) := by decide +kernel
theorem dX4_sent_13 : decode cX4_sent 13 = .ok (.iload_n 3, 1) := by decide +kernel
theorem dX4_sent_14 : decode cX4_sent 14 = .ok (.ishl, 1) := by decide +kernel
theorem dX4_sent_15 : decode cX4_sent 15 = .ok (.ior, 1) := by decide +kernel
theorem dX4_sent_16 : decode cX4_sent 16 = .ok (.ireturn, 1) := by decide +kernel
set_option maxRecDepth 100000 in
def F_X4_sent_b0 (v0 : Int32) (v1 : Int32) (v2 : Int32) (h : Hp) : Option Int32 :=
  some ((v0 &&& (((7 : Int32) <<< (((3 : Int32) * v1) &&& 31)) ^^^ (-1 : Int32))) ||| (v2 <<< (((3 : Int32) * v1) &&& 31)))
set_option maxHeartbeats 4000000 in
set_option maxRecDepth 100000 in
theorem r_X4_sent_b0 (v0 : Int32) (v1 : Int32) (v2 : Int32) (h : Hp) {x : Cx} {r : Int32} (e : F_X4_sent_b0 v0 v1 v2 h = some r) (hF : Fin9 M_X4_sent x (some .int) (some (.int r)) h) : V M_X4_sent x 0 0 [(0, .int v0), (1, .int v1), (2, .int v2)] [] h 0 0 := by
  unfold F_X4_sent_b0 at e
  refine V_iconst (pc := 0) (v := (3 : Int32)) dX4_sent_0 (by decide) ?_
  refine V_iload_n (pc := 1) (i := 1) dX4_sent_1 rfl rfl ?_
  refine V_imul (pc := 2) dX4_sent_2 ?_
  refine V_istore_n (pc := 3) (i := 3) (lv' := [(3, .int ((3 : Int32) * v1)), (0, .int v0), (1, .int v1), (2, .int v2)]) dX4_sent_3 rfl (by decide) rfl ?_
  refine V_iload_n (pc := 4) (i := 0) dX4_sent_4 rfl rfl ?_
  refine V_bipush (pc := 5) (v := (7 : Int32)) dX4_sent_5 (by decide) ?_
  refine V_iload_n (pc := 7) (i := 3) dX4_sent_7 rfl rfl ?_
  refine V_ishl (pc := 8) dX4_sent_8 ?_
  refine V_iconst (pc := 9) (v := (-1 : Int32)) dX4_sent_9 (by decide) ?_
  refine V_ixor (pc := 10) dX4_sent_10 ?_
  refine V_iand (pc := 11) dX4_sent_11 ?_
  refine V_iload_n (pc := 12) (i := 2) dX4_sent_12 rfl rfl ?_
  refine V_iload_n (pc := 13) (i := 3) dX4_sent_13 rfl rfl ?_
  refine V_ishl (pc := 14) dX4_sent_14 ?_
  refine V_ior (pc := 15) dX4_sent_15 ?_
  cases e
  exact V_iret (pc := 16) dX4_sent_16 hF
def F_X4_sent (v0 : Int32) (v1 : Int32) (v2 : Int32) (h : Hp) : Option Int32 := F_X4_sent_b0 v0 v1 v2 h
theorem c_X4_sent {l : Launch} (v0 : Int32) (v1 : Int32) (v2 : Int32) (h : Hp) {r : Int32} (e : F_X4_sent v0 v1 v2 h = some r) : Ct l yX4_sent M_X4_sent (some .int) 0 [.int v0, .int v1, .int v2] h 0 0 (some (.int r)) h :=
  Ct_of rfl rfl (fun q => by cases q) (Nat.le_of_ble_eq_true rfl) (fun x _ hF => V_pick [0, 1, 2] rfl (r_X4_sent_b0 v0 v1 v2 h e hF))

set_option maxRecDepth 100000 in
def F_X7_readLines_k9_l21 (v0 : Nat) (v1 : Nat) (v2 : Nat) (v3 : Int32) (v4 : Int32) (h : Hp) : Option ((Int32 × Hp) ⊕ (Hp ⊕ (Hp ⊕ (Hp ⊕ Hp)))) :=
  (if v3 ≤ v4 then some (.inr (.inl h)) else ob2 (F_X10_readLine v0 v1 v2 h) fun r10 h11 => gd (decide (kd h v0 = 9)) <| (if r10 = 0 then some (.inr (.inr (.inl h11))) else gd (decide (kd h11 v0 = 9)) <| ob (F_X6_hasMore v1 (setI h11 v0 0 ((zI h11 v0 0) + (1 : Int32)))) fun r15 => gd (decide (kd (setI h11 v0 0 ((zI h11 v0 0) + (1 : Int32))) v1 = 6)) <| (if r15 = 0 then some (.inr (.inr (.inr (.inl (setI h11 v0 0 ((zI h11 v0 0) + (1 : Int32))))))) else ob2 (F_X6_takeSign v1 (59 : Int32) (setI h11 v0 0 ((zI h11 v0 0) + (1 : Int32)))) fun r18 h19 => (if r18 = 0 then some (.inr (.inr (.inr (.inr h19)))) else some (.inl (v4 + (1 : Int32), h19))))))
set_option maxHeartbeats 4000000 in
set_option maxRecDepth 100000 in
theorem r_X7_readLines_k9_l21 (v0 : Nat) (v1 : Nat) (v2 : Nat) (v3 : Int32) (v4 : Int32) (h : Hp) {x : Cx} {o : ((Int32 × Hp) ⊕ (Hp ⊕ (Hp ⊕ (Hp ⊕ Hp))))} (e : F_X7_readLines_k9_l21 v0 v1 v2 v3 v4 h = some o) (kI : ∀ z, o = .inl z → V M_X7_readLines_k9 x 62 21 [(0, .ref v0), (1, .ref v1), (2, .ref v2), (3, .int v3), (4, .int z.1)] [] z.2 0 0) (kE74 : ∀ z : Hp, o = .inr (.inl z) → V M_X7_readLines_k9 x 62 74 [(1, .ref v1)] [] z 0 0) (kE36 : ∀ z : Hp, o = .inr (.inr (.inl z)) → V M_X7_readLines_k9 x 62 36 [] [] z 0 0) (kE55 : ∀ z : Hp, o = .inr (.inr (.inr (.inl z))) → V M_X7_readLines_k9 x 62 55 [] [] z 0 0) (kE66 : ∀ z : Hp, o = .inr (.inr (.inr (.inr z))) → V M_X7_readLines_k9 x 62 66 [] [] z 0 0) : V M_X7_readLines_k9 x 62 21 [(0, .ref v0), (1, .ref v1), (2, .ref v2), (3, .int v3), (4, .int v4)] [] h 0 0 := by
  unfold F_X7_readLines_k9_l21 at e
  refine V_iload (pc := 21) (i := 4) dX7_readLines_21 rfl ?_
  refine V_iload_n (pc := 23) (i := 3) dX7_readLines_23 rfl rfl ?_
  refine V_icmp_ge (pc := 24) (tgt := 74) dX7_readLines_24 (by decide) (fun c23 => ?_) (fun c23 => ?_)
  · rw [if_pos c23] at e
    cases e
    exact V_pick [1] rfl (kE74 h rfl)
  · rw [if_neg c23] at e
    refine V_pick [0, 1, 2, 3, 4] rfl ?_
    refine V_aload_n (pc := 27) (i := 0) dX7_readLines_27 rfl rfl ?_
    refine V_aload_n (pc := 28) (i := 1) dX7_readLines_28 rfl rfl ?_
    refine V_aload_n (pc := 29) (i := 2) dX7_readLines_29 rfl rfl ?_
    obtain ⟨r10, h11, g9, e⟩ := ob2_some e
    obtain ⟨g12, e⟩ := gd_some e
    refine V_callU (pc := 30) (bc := 0) (bs := 0) (mc := 0) (ms := 0) (st := []) (As := [.ref v1, .ref v2]) (a := v0) (h' := h11) (r := some (.int r10)) dX7_readLines_30 ml_X7_22_k9 (ci := 9) rfl (of_decide_eq_true g12) rfl rfl (Nat.le_of_ble_eq_true rfl) (d' := 61) (by decide) (c_X10_readLine (l := x.2.1) v0 v1 v2 h g9) ?_
    refine V_if_ne (pc := 33) (tgt := 38) dX7_readLines_33 (by decide) (fun c22 => ?_) (fun c22 => ?_)
    · rw [if_neg c22] at e
      refine V_pick [0, 1, 2, 3, 4] rfl ?_
      refine V_aload_n (pc := 38) (i := 0) dX7_readLines_38 rfl rfl ?_
      refine V_dup (pc := 39) dX7_readLines_39 rfl ?_
      obtain ⟨g13, e⟩ := gd_some e
      refine V_getI (pc := 40) (ci := 9) (k := 0) dX7_readLines_40 fl_X7_7_k9 rfl (of_decide_eq_true g13) ?_
      refine V_iconst (pc := 43) (v := (1 : Int32)) dX7_readLines_43 (by decide) ?_
      refine V_iadd (pc := 44) dX7_readLines_44 ?_
      refine V_putI (pc := 45) (ci := 9) (k := 0) dX7_readLines_45 fp_X7_7_k9 rfl (of_decide_eq_true g13) ?_
      refine V_aload_n (pc := 48) (i := 1) dX7_readLines_48 rfl rfl ?_
      obtain ⟨r15, g14, e⟩ := ob_some e
      obtain ⟨g16, e⟩ := gd_some e
      refine V_callV (pc := 49) (bc := 0) (bs := 0) (mc := 0) (ms := 0) (st := []) (As := []) (a := v1) (h' := (setI h11 v0 0 ((zI h11 v0 0) + (1 : Int32)))) (r := some (.int r15)) dX7_readLines_49 ml_X7_18 (ci := 6) rfl (of_decide_eq_true g16) rfl rfl (Nat.le_of_ble_eq_true rfl) (d' := 0) (by decide) (c_X6_hasMore (l := x.2.1) v1 (setI h11 v0 0 ((zI h11 v0 0) + (1 : Int32))) g14) ?_
      refine V_if_ne (pc := 52) (tgt := 57) dX7_readLines_52 (by decide) (fun c21 => ?_) (fun c21 => ?_)
      · rw [if_neg c21] at e
        refine V_pick [0, 1, 2, 3, 4] rfl ?_
        refine V_aload_n (pc := 57) (i := 1) dX7_readLines_57 rfl rfl ?_
        refine V_bipush (pc := 58) (v := (59 : Int32)) dX7_readLines_58 (by decide) ?_
        obtain ⟨r18, h19, g17, e⟩ := ob2_some e
        refine V_callV (pc := 60) (bc := 0) (bs := 0) (mc := 0) (ms := 0) (st := []) (As := [.int (59 : Int32)]) (a := v1) (h' := h19) (r := some (.int r18)) dX7_readLines_60 ml_X7_26 (ci := 6) rfl (of_decide_eq_true g16) rfl rfl (Nat.le_of_ble_eq_true rfl) (d' := 2) (by decide) (c_X6_takeSign (l := x.2.1) v1 (59 : Int32) (setI h11 v0 0 ((zI h11 v0 0) + (1 : Int32))) g17) ?_
        refine V_if_ne (pc := 63) (tgt := 68) dX7_readLines_63 (by decide) (fun c20 => ?_) (fun c20 => ?_)
        · rw [if_neg c20] at e
          refine V_pick [0, 1, 2, 3, 4] rfl ?_
          refine V_iinc (pc := 68) (i := 4) (u := v4 + (1 : Int32)) (lv' := [(4, .int (v4 + (1 : Int32))), (0, .ref v0), (1, .ref v1), (2, .ref v2), (3, .int v3)]) dX7_readLines_68 rfl rfl (by decide) rfl ?_
          refine V_goto (pc := 71) (tgt := 21) dX7_readLines_71 (by decide) ?_
          cases e
          exact V_pick [1, 2, 3, 4, 0] rfl (kI (v4 + (1 : Int32), h19) rfl)
        · rw [if_pos c20] at e
          cases e
          exact V_pick [] rfl (kE66 h19 rfl)
      · rw [if_pos c21] at e
        cases e
        exact V_pick [] rfl (kE55 (setI h11 v0 0 ((zI h11 v0 0) + (1 : Int32))) rfl)
    · rw [if_pos c22] at e
      cases e
      exact V_pick [] rfl (kE36 h11 rfl)
set_option maxRecDepth 100000 in
def F_X7_readLines_k9_b0 (v0 : Nat) (v1 : Nat) (v2 : Nat) (v3 : Int32) (h : Hp) : Option (Int32 × Hp) :=
  gd (decide (kd h v0 = 9)) <| ob2 (F_X6_lookAtFirst v1 (setI h v0 0 (0 : Int32))) fun _ h4 => gd (decide (kd (setI h v0 0 (0 : Int32)) v1 = 6)) <| ob (F_X6_hasMore v1 h4) fun r7 => gd (decide (kd h4 v1 = 6)) <| (if r7 = 0 then some ((1 : Int32), h4) else ob (iter (fun z : Int32 × Hp => F_X7_readLines_k9_l21 v0 v1 v2 v3 z.1 z.2) FU ((0 : Int32), h4)) (fun z => sm z (fun h24 => ob2 (F_X6_refuse v1 h24) fun r26 h27 => gd (decide (kd h24 v1 = 6)) <| gd (decide (r26 = 0 ∨ r26 = 1)) <| some (r26, h27)) (fun z => sm z (fun h30 => some ((0 : Int32), h30)) (fun z => sm z (fun h31 => some ((1 : Int32), h31)) (fun h32 => some ((0 : Int32), h32))))))
set_option maxHeartbeats 4000000 in
set_option maxRecDepth 100000 in
theorem r_X7_readLines_k9_b0 (v0 : Nat) (v1 : Nat) (v2 : Nat) (v3 : Int32) (h : Hp) {x : Cx} {r : Int32} {hz : Hp} (e : F_X7_readLines_k9_b0 v0 v1 v2 v3 h = some (r, hz)) (hF : Fin9 M_X7_readLines_k9 x (some .boolean) (some (.int r)) hz) : V M_X7_readLines_k9 x 62 0 [(0, .ref v0), (1, .ref v1), (2, .ref v2), (3, .int v3)] [] h 0 0 := by
  unfold F_X7_readLines_k9_b0 at e
  refine V_aload_n (pc := 0) (i := 0) dX7_readLines_0 rfl rfl ?_
  refine V_iconst (pc := 1) (v := (0 : Int32)) dX7_readLines_1 (by decide) ?_
  obtain ⟨g1, e⟩ := gd_some e
  refine V_putI (pc := 2) (ci := 9) (k := 0) dX7_readLines_2 fp_X7_7_k9 rfl (of_decide_eq_true g1) ?_
  refine V_aload_n (pc := 5) (i := 1) dX7_readLines_5 rfl rfl ?_
  obtain ⟨r3, h4, g2, e⟩ := ob2_some e
  obtain ⟨g5, e⟩ := gd_some e
  refine V_callV (pc := 6) (bc := 0) (bs := 0) (mc := 0) (ms := 0) (st := []) (As := []) (a := v1) (h' := h4) (r := none) dX7_readLines_6 ml_X7_13 (ci := 6) rfl (of_decide_eq_true g5) rfl rfl (Nat.le_of_ble_eq_true rfl) (d' := 2) (by decide) (c_X6_lookAtFirst (l := x.2.1) v1 (setI h v0 0 (0 : Int32)) g2) ?_
  refine V_aload_n (pc := 9) (i := 1) dX7_readLines_9 rfl rfl ?_
  obtain ⟨r7, g6, e⟩ := ob_some e
  obtain ⟨g8, e⟩ := gd_some e
  refine V_callV (pc := 10) (bc := 0) (bs := 0) (mc := 0) (ms := 0) (st := []) (As := []) (a := v1) (h' := h4) (r := some (.int r7)) dX7_readLines_10 ml_X7_18 (ci := 6) rfl (of_decide_eq_true g8) rfl rfl (Nat.le_of_ble_eq_true rfl) (d' := 0) (by decide) (c_X6_hasMore (l := x.2.1) v1 h4 g6) ?_
  refine V_if_ne (pc := 13) (tgt := 18) dX7_readLines_13 (by decide) (fun c41 => ?_) (fun c41 => ?_)
  · rw [if_neg c41] at e
    refine V_pick [0, 1, 2, 3] rfl ?_
    refine V_iconst (pc := 18) (v := (0 : Int32)) dX7_readLines_18 (by decide) ?_
    refine V_istore (pc := 19) (i := 4) (lv' := [(4, .int (0 : Int32)), (0, .ref v0), (1, .ref v1), (2, .ref v2), (3, .int v3)]) dX7_readLines_19 (by decide) rfl ?_
    refine V_pick [1, 2, 3, 4, 0] rfl ?_
    obtain ⟨y33, g34, e⟩ := ob_some e
    refine iter_V (P := fun z : Int32 × Hp => V M_X7_readLines_k9 x 62 21 [(0, .ref v0), (1, .ref v1), (2, .ref v2), (3, .int v3), (4, .int z.1)] [] z.2 0 0) (E := fun z => Sum.elim (fun z : Hp => V M_X7_readLines_k9 x 62 74 [(1, .ref v1)] [] z 0 0) (fun z => Sum.elim (fun z : Hp => V M_X7_readLines_k9 x 62 36 [] [] z 0 0) (fun z => Sum.elim (fun z : Hp => V M_X7_readLines_k9 x 62 55 [] [] z 0 0) (fun z : Hp => V M_X7_readLines_k9 x 62 66 [] [] z 0 0) z) z) z) (fun z o e9 k1 k2 => r_X7_readLines_k9_l21 v0 v1 v2 v3 z.1 z.2 e9 (fun z hz9 => k1 z hz9) (fun z hz9 => k2 _ hz9) (fun z hz9 => k2 _ hz9) (fun z hz9 => k2 _ hz9) (fun z hz9 => k2 _ hz9)) _ _ _ g34 ?_
    clear g34
    rcases y33 with y35 | y36
    · obtain ⟨h24, rfl⟩ : ∃ q, q = y35 := ⟨_, rfl⟩
      replace e : (ob2 (F_X6_refuse v1 h24) fun r26 h27 => gd (decide (kd h24 v1 = 6)) <| gd (decide (r26 = 0 ∨ r26 = 1)) <| some (r26, h27)) = some (r, hz) := e
      show V M_X7_readLines_k9 x 62 74 [(1, .ref v1)] [] h24 0 0
      refine V_aload_n (pc := 74) (i := 1) dX7_readLines_74 rfl rfl ?_
      obtain ⟨r26, h27, g25, e⟩ := ob2_some e
      obtain ⟨g28, e⟩ := gd_some e
      refine V_callV (pc := 75) (bc := 0) (bs := 0) (mc := 0) (ms := 0) (st := []) (As := []) (a := v1) (h' := h27) (r := some (.int r26)) dX7_readLines_75 ml_X7_30 (ci := 6) rfl (of_decide_eq_true g28) rfl rfl (Nat.le_of_ble_eq_true rfl) (d' := 0) (by decide) (c_X6_refuse (l := x.2.1) v1 h24 g25) ?_
      obtain ⟨g29, e⟩ := gd_some e
      cases e
      exact V_zret (pc := 78) dX7_readLines_78 (z01 (of_decide_eq_true g29)) hF
    · rcases y36 with y37 | y38
      · obtain ⟨h30, rfl⟩ : ∃ q, q = y37 := ⟨_, rfl⟩
        replace e : (some ((0 : Int32), h30)) = some (r, hz) := e
        show V M_X7_readLines_k9 x 62 36 [] [] h30 0 0
        refine V_iconst (pc := 36) (v := (0 : Int32)) dX7_readLines_36 (by decide) ?_
        cases e
        exact V_zret (pc := 37) dX7_readLines_37 rfl hF
      · rcases y38 with y39 | y40
        · obtain ⟨h31, rfl⟩ : ∃ q, q = y39 := ⟨_, rfl⟩
          replace e : (some ((1 : Int32), h31)) = some (r, hz) := e
          show V M_X7_readLines_k9 x 62 55 [] [] h31 0 0
          refine V_iconst (pc := 55) (v := (1 : Int32)) dX7_readLines_55 (by decide) ?_
          cases e
          exact V_zret (pc := 56) dX7_readLines_56 rfl hF
        · obtain ⟨h32, rfl⟩ : ∃ q, q = y40 := ⟨_, rfl⟩
          replace e : (some ((0 : Int32), h32)) = some (r, hz) := e
          show V M_X7_readLines_k9 x 62 66 [] [] h32 0 0
          refine V_iconst (pc := 66) (v := (0 : Int32)) dX7_readLines_66 (by decide) ?_
          cases e
          exact V_zret (pc := 67) dX7_readLines_67 rfl hF
  · rw [if_pos c41] at e
    refine V_pick [] rfl ?_
    refine V_iconst (pc := 16) (v := (1 : Int32)) dX7_readLines_16 (by decide) ?_
    cases e
    exact V_zret (pc := 17) dX7_readLines_17 rfl hF
def F_X7_readLines_k9 (v0 : Nat) (v1 : Nat) (v2 : Nat) (v3 : Int32) (h : Hp) : Option (Int32 × Hp) := F_X7_readLines_k9_b0 v0 v1 v2 v3 h
theorem c_X7_readLines_k9 {l : Launch} (v0 : Nat) (v1 : Nat) (v2 : Nat) (v3 : Int32) (h : Hp) {r : Int32} {hz : Hp} (e : F_X7_readLines_k9 v0 v1 v2 v3 h = some (r, hz)) : Ct l yX7_readLines M_X7_readLines_k9 (some .boolean) 62 [.ref v0, .ref v1, .ref v2, .int v3] h 0 0 (some (.int r)) hz :=
  Ct_of rfl rfl (fun q => by cases q) (Nat.le_of_ble_eq_true rfl) (fun x _ hF => V_pick [0, 1, 2, 3] rfl (r_X7_readLines_k9_b0 v0 v1 v2 v3 h e hF))
theorem dX11_wishes_0 : decode cX11_wishes 0 = .ok (.aload_n 0, 1) := by decide +kernel
theorem dX11_wishes_1 : decode cX11_wishes 1 = .ok (.getfield 19, 3) := by decide +kernel
theorem dX11_wishes_4 : decode cX11_wishes 4 = .ok (.iload_n 1, 1) := by decide +kernel
theorem dX11_wishes_5 : decode cX11_wishes 5 = .ok (.invokevirtual 109, 3) := by decide +kernel
theorem dX11_wishes_8 : decode cX11_wishes 8 = .ok (.ifCond .ne 21, 3) := by decide +kernel
theorem dX11_wishes_11 : decode cX11_wishes 11 = .ok (.aload_n 0, 1) := by decide +kernel
theorem dX11_wishes_12 : decode cX11_wishes 12 = .ok (.getfield 10, 3) := by decide +kernel
theorem dX11_wishes_15 : decode cX11_wishes 15 = .ok (.iconst 0, 1) := by decide +kernel
theorem dX11_wishes_16 : decode cX11_wishes 16 = .ok (.putfield 75, 3) := by decide +kernel
theorem dX11_wishes_19 : decode cX11_wishes 19 = .ok (.new 113, 3) := by decide +kernel
theorem dX11_wishes_22 : decode cX11_wishes 22 = .ok (.dup, 1) := by decide +kernel
theorem dX11_wishes_23 : decode cX11_wishes 23 = .ok (.ldc 115, 2) := by decide +kernel
theorem dX11_wishes_25 : decode cX11_wishes 25 = .ok (.invokespecial 117, 3) := by decide +kernel
theorem dX11_wishes_28 : decode cX11_wishes 28 = .ok (.athrow, 1) := by decide +kernel
theorem dX11_wishes_29 : decode cX11_wishes 29 = .ok (.aload_n 0, 1) := by decide +kernel
theorem dX11_wishes_30 : decode cX11_wishes 30 = .ok (.getfield 33, 3) := by decide +kernel
theorem dX11_wishes_33 : decode cX11_wishes 33 = .ok (.iconst 0, 1) := by decide +kernel
theorem dX11_wishes_34 : decode cX11_wishes 34 = .ok (.putfield 118, 3) := by decide +kernel
theorem dX11_wishes_37 : decode cX11_wishes 37 = .ok (.aload_n 0, 1) := by decide +kernel
theorem dX11_wishes_38 : decode cX11_wishes 38 = .ok (.getfield 33, 3) := by decide +kernel
theorem dX11_wishes_41 : decode cX11_wishes 41 = .ok (.aload_n 0, 1) := by decide +kernel
theorem dX11_wishes_42 : decode cX11_wishes 42 = .ok (.getfield 10, 3) := by decide +kernel
theorem dX11_wishes_45 : decode cX11_wishes 45 = .ok (.aload_n 0, 1) := by decide +kernel
theorem dX11_wishes_46 : decode cX11_wishes 46 = .ok (.getfield 19, 3) := by decide +kernel
theorem dX11_wishes_49 : decode cX11_wishes 49 = .ok (.bipush 8, 2) := by decide +kernel
theorem dX11_wishes_51 : decode cX11_wishes 51 = .ok (.invokevirtual 121, 3) := by decide +kernel
theorem dX11_wishes_54 : decode cX11_wishes 54 = .ok (.istore_n 2, 1) := by decide +kernel
theorem dX11_wishes_55 : decode cX11_wishes 55 = .ok (.aload_n 0, 1) := by decide +kernel
theorem dX11_wishes_56 : decode cX11_wishes 56 = .ok (.getfield 10, 3) := by decide +kernel
theorem dX11_wishes_59 : decode cX11_wishes 59 = .ok (.iconst 0, 1) := by decide +kernel
theorem dX11_wishes_60 : decode cX11_wishes 60 = .ok (.putfield 75, 3) := by decide +kernel
theorem dX11_wishes_63 : decode cX11_wishes 63 = .ok (.iload_n 2, 1) := by decide +kernel
theorem dX11_wishes_64 : decode cX11_wishes 64 = .ok (.ifCond .ne 13, 3) := by decide +kernel
theorem dX11_wishes_67 : decode cX11_wishes 67 = .ok (.new 91, 3) := by decide +kernel
theorem dX11_wishes_70 : decode cX11_wishes 70 = .ok (.dup, 1) := by decide +kernel
theorem dX11_wishes_71 : decode cX11_wishes 71 = .ok (.ldc 93, 2) := by decide +kernel
theorem dX11_wishes_73 : decode cX11_wishes 73 = .ok (.invokespecial 95, 3) := by decide +kernel
theorem dX11_wishes_76 : decode cX11_wishes 76 = .ok (.athrow, 1) := by decide +kernel
theorem dX11_wishes_77 : decode cX11_wishes 77 = .ok (.aload_n 0, 1) := by decide +kernel
theorem dX11_wishes_78 : decode cX11_wishes 78 = .ok (.getfield 19, 3) := by decide +kernel
theorem dX11_wishes_81 : decode cX11_wishes 81 = .ok (.getfield 122, 3) := by decide +kernel
theorem dX11_wishes_84 : decode cX11_wishes 84 = .ok (.iload_n 1, 1) := by decide +kernel
theorem dX11_wishes_85 : decode cX11_wishes 85 = .ok (.aaload, 1) := by decide +kernel
theorem dX11_wishes_86 : decode cX11_wishes 86 = .ok (.aload_n 0, 1) := by decide +kernel
theorem dX11_wishes_87 : decode cX11_wishes 87 = .ok (.getfield 33, 3) := by decide +kernel
theorem dX11_wishes_90 : decode cX11_wishes 90 = .ok (.invokevirtual 126, 3) := by decide +kernel
theorem dX11_wishes_93 : decode cX11_wishes 93 = .ok (.aload_n 0, 1) := by decide +kernel
theorem dX11_wishes_94 : decode cX11_wishes 94 = .ok (.getfield 33, 3) := by decide +kernel
theorem dX11_wishes_97 : decode cX11_wishes 97 = .ok (.getfield 130, 3) := by decide +kernel
theorem dX11_wishes_100 : decode cX11_wishes 100 = .ok (.ireturn, 1) := by decide +kernel
set_option maxRecDepth 100000 in
def F_X11_wishes_b0 (v0 : Nat) (v1 : Int32) (h : Hp) : Option ((Int32 ⊕ Nat) × Hp × Nat × Nat) :=
  gd (decide (kd h v0 = 10)) <| ob (zR h v0 1) fun q2 => ob (F_X2_hasGuest q2 v1 h) fun r5 => gd (decide (kd h q2 = 2)) <| (if r5 = 0 then ob (zR h v0 0) fun q44 => gd (decide (kd h q44 = 6)) <| some (.inr 2, setI h q44 1 (0 : Int32), 1, 6) else ob (zR h v0 3) fun q7 => gd (decide (kd h q7 = 9)) <| ob (zR (setI h q7 3 (0 : Int32)) v0 3) fun q10 => ob (zR (setI h q7 3 (0 : Int32)) v0 0) fun q12 => ob (zR (setI h q7 3 (0 : Int32)) v0 1) fun q14 => ob2 (F_X7_readLines_k9 q10 q12 q14 (8 : Int32) (setI h q7 3 (0 : Int32))) fun r17 h18 => gd (decide (kd (setI h q7 3 (0 : Int32)) q10 = 9)) <| gd (decide (kd h18 v0 = 10)) <| ob (zR h18 v0 0) fun q21 => gd (decide (kd h18 q21 = 6)) <| (if r17 = 0 then some (.inr 0, setI h18 q21 1 (0 : Int32), 1, 6) else ob (zR (setI h18 q21 1 (0 : Int32)) v0 1) fun q24 => gd (decide (kd (setI h18 q21 1 (0 : Int32)) q24 = 2)) <| ob (zR (setI h18 q21 1 (0 : Int32)) q24 8) fun q27 => gd (decide (kd (setI h18 q21 1 (0 : Int32)) q27 = 15)) <| gd (ix v1 (zl (setI h18 q21 1 (0 : Int32)) q27)) <| ob (zR (setI h18 q21 1 (0 : Int32)) q27 (v1).toNatClampNeg) fun q31 => ob (zR (setI h18 q21 1 (0 : Int32)) v0 3) fun q33 => ob2 (F_X10_copyFrom q31 q33 (setI h18 q21 1 (0 : Int32))) fun _ h37 => gd (decide (kd (setI h18 q21 1 (0 : Int32)) q31 = 9)) <| gd (decide (kd h37 v0 = 10)) <| ob (zR h37 v0 3) fun q40 => gd (decide (kd h37 q40 = 9)) <| some (.inl (zI h37 q40 0), h37, 0, 0)))
set_option maxHeartbeats 4000000 in
set_option maxRecDepth 100000 in
theorem r_X11_wishes_b0 (v0 : Nat) (v1 : Int32) (h : Hp) {x : Cx} {r : (Int32 ⊕ Nat)} {hz : Hp} {c9 s9 : Nat} (e : F_X11_wishes_b0 v0 v1 h = some (r, hz, c9, s9)) (hF : FinO M_X11_wishes x (some .int) r hz) : V M_X11_wishes x 63 0 [(0, .ref v0), (1, .int v1)] [] h c9 s9 := by
  unfold F_X11_wishes_b0 at e
  refine V_aload_n (pc := 0) (i := 0) dX11_wishes_0 rfl rfl ?_
  replace e := gd_some e
  obtain ⟨g1, e⟩ := e
  replace e := ob_some e
  obtain ⟨q2, g3, e⟩ := e
  refine V_getR (pc := 1) (ci := 10) (k := 1) (b := q2) dX11_wishes_1 fl_X11_19 rfl (of_decide_eq_true g1) g3 ?_
  refine V_iload_n (pc := 4) (i := 1) dX11_wishes_4 rfl rfl ?_
  replace e := ob_some e
  obtain ⟨r5, g4, e⟩ := e
  replace e := gd_some e
  obtain ⟨g6, e⟩ := e
  refine V_callV (pc := 5) (bc := c9) (bs := s9) (mc := 0) (ms := 0) (st := []) (As := [.int v1]) (a := q2) (h' := h) (r := some (.int r5)) dX11_wishes_5 ml_X11_109 (ci := 2) rfl (of_decide_eq_true g6) rfl rfl (Nat.le_of_ble_eq_true rfl) (d' := 0) (by decide) (c_X2_hasGuest (l := x.2.1) q2 v1 h g4) ?_
  refine V_if_ne (pc := 8) (tgt := 29) dX11_wishes_8 (by decide) (fun c47 => ?_) (fun c47 => ?_)
  · rw [if_neg c47] at e
    refine V_pick [0, 1] rfl ?_
    refine V_aload_n (pc := 29) (i := 0) dX11_wishes_29 rfl rfl ?_
    replace e := ob_some e
    obtain ⟨q7, g8, e⟩ := e
    refine V_getR (pc := 30) (ci := 10) (k := 3) (b := q7) dX11_wishes_30 fl_X11_33 rfl (of_decide_eq_true g1) g8 ?_
    refine V_iconst (pc := 33) (v := (0 : Int32)) dX11_wishes_33 (by decide) ?_
    replace e := gd_some e
    obtain ⟨g9, e⟩ := e
    refine V_putI (pc := 34) (ci := 9) (k := 3) dX11_wishes_34 fp_X11_118 rfl (of_decide_eq_true g9) ?_
    refine V_aload_n (pc := 37) (i := 0) dX11_wishes_37 rfl rfl ?_
    replace e := ob_some e
    obtain ⟨q10, g11, e⟩ := e
    refine V_getR (pc := 38) (ci := 10) (k := 3) (b := q10) dX11_wishes_38 fl_X11_33 rfl (kd_sI (of_decide_eq_true g1)) g11 ?_
    refine V_aload_n (pc := 41) (i := 0) dX11_wishes_41 rfl rfl ?_
    replace e := ob_some e
    obtain ⟨q12, g13, e⟩ := e
    refine V_getR (pc := 42) (ci := 10) (k := 0) (b := q12) dX11_wishes_42 fl_X11_10 rfl (kd_sI (of_decide_eq_true g1)) g13 ?_
    refine V_aload_n (pc := 45) (i := 0) dX11_wishes_45 rfl rfl ?_
    replace e := ob_some e
    obtain ⟨q14, g15, e⟩ := e
    refine V_getR (pc := 46) (ci := 10) (k := 1) (b := q14) dX11_wishes_46 fl_X11_19 rfl (kd_sI (of_decide_eq_true g1)) g15 ?_
    refine V_bipush (pc := 49) (v := (8 : Int32)) dX11_wishes_49 (by decide) ?_
    replace e := ob2_some e
    obtain ⟨r17, h18, g16, e⟩ := e
    replace e := gd_some e
    obtain ⟨g19, e⟩ := e
    refine V_callU (pc := 51) (bc := c9) (bs := s9) (mc := 0) (ms := 0) (st := []) (As := [.ref q12, .ref q14, .int (8 : Int32)]) (a := q10) (h' := h18) (r := some (.int r17)) dX11_wishes_51 ml_X11_121 (ci := 9) rfl (of_decide_eq_true g19) rfl rfl (Nat.le_of_ble_eq_true rfl) (d' := 62) (by decide) (c_X7_readLines_k9 (l := x.2.1) q10 q12 q14 (8 : Int32) (setI h q7 3 (0 : Int32)) g16) ?_
    refine V_istore_n (pc := 54) (i := 2) (lv' := [(2, .int r17), (0, .ref v0), (1, .int v1)]) dX11_wishes_54 rfl (by decide) rfl ?_
    refine V_aload_n (pc := 55) (i := 0) dX11_wishes_55 rfl rfl ?_
    replace e := gd_some e
    obtain ⟨g20, e⟩ := e
    replace e := ob_some e
    obtain ⟨q21, g22, e⟩ := e
    refine V_getR (pc := 56) (ci := 10) (k := 0) (b := q21) dX11_wishes_56 fl_X11_10 rfl (of_decide_eq_true g20) g22 ?_
    refine V_iconst (pc := 59) (v := (0 : Int32)) dX11_wishes_59 (by decide) ?_
    replace e := gd_some e
    obtain ⟨g23, e⟩ := e
    refine V_putI (pc := 60) (ci := 6) (k := 1) dX11_wishes_60 fp_X11_75 rfl (of_decide_eq_true g23) ?_
    refine V_iload_n (pc := 63) (i := 2) dX11_wishes_63 rfl rfl ?_
    refine V_if_ne (pc := 64) (tgt := 77) dX11_wishes_64 (by decide) (fun c43 => ?_) (fun c43 => ?_)
    · rw [if_neg c43] at e
      refine V_pick [1, 2] rfl ?_
      refine V_aload_n (pc := 77) (i := 0) dX11_wishes_77 rfl rfl ?_
      replace e := ob_some e
      obtain ⟨q24, g25, e⟩ := e
      refine V_getR (pc := 78) (ci := 10) (k := 1) (b := q24) dX11_wishes_78 fl_X11_19 rfl (kd_sI (of_decide_eq_true g20)) g25 ?_
      replace e := gd_some e
      obtain ⟨g26, e⟩ := e
      replace e := ob_some e
      obtain ⟨q27, g28, e⟩ := e
      refine V_getR (pc := 81) (ci := 2) (k := 8) (b := q27) dX11_wishes_81 fl_X11_122 rfl (of_decide_eq_true g26) g28 ?_
      refine V_iload_n (pc := 84) (i := 1) dX11_wishes_84 rfl rfl ?_
      replace e := gd_some e
      obtain ⟨g29, e⟩ := e
      replace e := gd_some e
      obtain ⟨g30, e⟩ := e
      replace e := ob_some e
      obtain ⟨q31, g32, e⟩ := e
      refine V_aald (pc := 85) (b := q31) dX11_wishes_85 (of_decide_eq_true g29) (ix_in g30) g32 ?_
      refine V_aload_n (pc := 86) (i := 0) dX11_wishes_86 rfl rfl ?_
      replace e := ob_some e
      obtain ⟨q33, g34, e⟩ := e
      refine V_getR (pc := 87) (ci := 10) (k := 3) (b := q33) dX11_wishes_87 fl_X11_33 rfl (kd_sI (of_decide_eq_true g20)) g34 ?_
      replace e := ob2_some e
      obtain ⟨r36, h37, g35, e⟩ := e
      replace e := gd_some e
      obtain ⟨g38, e⟩ := e
      refine V_callV (pc := 90) (bc := c9) (bs := s9) (mc := 0) (ms := 0) (st := []) (As := [.ref q33]) (a := q31) (h' := h37) (r := none) dX11_wishes_90 ml_X11_126 (ci := 9) rfl (of_decide_eq_true g38) rfl rfl (Nat.le_of_ble_eq_true rfl) (d' := 1) (by decide) (c_X10_copyFrom (l := x.2.1) q31 q33 (setI h18 q21 1 (0 : Int32)) g35) ?_
      refine V_aload_n (pc := 93) (i := 0) dX11_wishes_93 rfl rfl ?_
      replace e := gd_some e
      obtain ⟨g39, e⟩ := e
      replace e := ob_some e
      obtain ⟨q40, g41, e⟩ := e
      refine V_getR (pc := 94) (ci := 10) (k := 3) (b := q40) dX11_wishes_94 fl_X11_33 rfl (of_decide_eq_true g39) g41 ?_
      replace e := gd_some e
      obtain ⟨g42, e⟩ := e
      refine V_getI (pc := 97) (ci := 9) (k := 0) dX11_wishes_97 fl_X11_130 rfl (of_decide_eq_true g42) ?_
      cases e
      exact V_iret (pc := 100) dX11_wishes_100 hF
    · rw [if_pos c43] at e
      refine V_pick [] rfl ?_
      cases e
      exact V_throw (pc := 67) (j := 26) hF th_X11_91_95 rfl (by decide) (Nat.le_of_ble_eq_true rfl) dX11_wishes_67 dX11_wishes_70 dX11_wishes_71 dX11_wishes_73 dX11_wishes_76
  · rw [if_pos c47] at e
    refine V_pick [0] rfl ?_
    refine V_aload_n (pc := 11) (i := 0) dX11_wishes_11 rfl rfl ?_
    replace e := ob_some e
    obtain ⟨q44, g45, e⟩ := e
    refine V_getR (pc := 12) (ci := 10) (k := 0) (b := q44) dX11_wishes_12 fl_X11_10 rfl (of_decide_eq_true g1) g45 ?_
    refine V_iconst (pc := 15) (v := (0 : Int32)) dX11_wishes_15 (by decide) ?_
    replace e := gd_some e
    obtain ⟨g46, e⟩ := e
    refine V_putI (pc := 16) (ci := 6) (k := 1) dX11_wishes_16 fp_X11_75 rfl (of_decide_eq_true g46) ?_
    cases e
    exact V_throw (pc := 19) (j := 28) hF th_X11_113_117 rfl (by decide) (Nat.le_of_ble_eq_true rfl) dX11_wishes_19 dX11_wishes_22 dX11_wishes_23 dX11_wishes_25 dX11_wishes_28
def F_X11_wishes (v0 : Nat) (v1 : Int32) (h : Hp) : Option ((Int32 ⊕ Nat) × Hp × Nat × Nat) := F_X11_wishes_b0 v0 v1 h
theorem c_X11_wishes {l : Launch} (v0 : Nat) (v1 : Int32) (h : Hp) {r : Int32} {hz : Hp} {c9 s9 : Nat} (e : F_X11_wishes v0 v1 h = some (.inl r, hz, c9, s9)) : Ct l yX11_wishes M_X11_wishes (some .int) 63 [.ref v0, .int v1] h c9 s9 (some (.int r)) hz :=
  Ct_of rfl rfl (fun q => by cases q) (Nat.le_of_ble_eq_true rfl) (fun x _ hF => V_pick [0, 1] rfl (r_X11_wishes_b0 v0 v1 h e hF))
theorem cX_X11_wishes {l : Launch} (hst : l.stackTraces = false) (v0 : Nat) (v1 : Int32) (h : Hp) {k : Nat} {hz : Hp} {c9 s9 : Nat} (e : F_X11_wishes v0 v1 h = some (.inr k, hz, c9, s9)) : CtX l yX11_wishes M_X11_wishes (some .int) 63 [.ref v0, .int v1] h c9 s9 (exN k) hz :=
  CtX_of hst rfl rfl (fun q => by cases q) (Nat.le_of_ble_eq_true rfl) (fun x _ hF => V_pick [0, 1] rfl (r_X11_wishes_b0 v0 v1 h e hF))
theorem dX11_seats_0 : decode cX11_seats 0 = .ok (.iload_n 1, 1) := by decide +kernel
theorem dX11_seats_1 : decode cX11_seats 1 = .ok (.ifCond .lt 8, 3) := by decide +kernel
theorem dX11_seats_4 : decode cX11_seats 4 = .ok (.iload_n 1, 1) := by decide +kernel
theorem dX11_seats_5 : decode cX11_seats 5 = .ok (.iconst 2, 1) := by decide +kernel
theorem dX11_seats_6 : decode cX11_seats 6 = .ok (.if_icmp .le 13, 3) := by decide +kernel
theorem dX11_seats_9 : decode cX11_seats 9 = .ok (.new 182, 3) := by decide +kernel
theorem dX11_seats_12 : decode cX11_seats 12 = .ok (.dup, 1) := by decide +kernel
theorem dX11_seats_13 : decode cX11_seats 13 = .ok (.ldc 184, 2) := by decide +kernel
theorem dX11_seats_15 : decode cX11_seats 15 = .ok (.invokespecial 186, 3) := by decide +kernel
theorem dX11_seats_18 : decode cX11_seats 18 = .ok (.athrow, 1) := by decide +kernel
theorem dX11_seats_19 : decode cX11_seats 19 = .ok (.aload_n 0, 1) := by decide +kernel
theorem dX11_seats_20 : decode cX11_seats 20 = .ok (.getfield 54, 3) := by decide +kernel
theorem dX11_seats_23 : decode cX11_seats 23 = .ok (.aload_n 0, 1) := by decide +kernel
theorem dX11_seats_24 : decode cX11_seats 24 = .ok (.getfield 19, 3) := by decide +kernel
theorem dX11_seats_27 : decode cX11_seats 27 = .ok (.aload_n 0, 1) := by decide +kernel
theorem dX11_seats_28 : decode cX11_seats 28 = .ok (.getfield 47, 3) := by decide +kernel
theorem dX11_seats_31 : decode cX11_seats 31 = .ok (.invokevirtual 247, 3) := by decide +kernel
theorem dX11_seats_34 : decode cX11_seats 34 = .ok (.iload_n 1, 1) := by decide +kernel
theorem dX11_seats_35 : decode cX11_seats 35 = .ok (.lookupswitch 41 #[(0, 25), (1, 33)], 25) := by decide +kernel
theorem dX11_seats_60 : decode cX11_seats 60 = .ok (.aload_n 0, 1) := by decide +kernel
theorem dX11_seats_61 : decode cX11_seats 61 = .ok (.getfield 54, 3) := by decide +kernel
theorem dX11_seats_64 : decode cX11_seats 64 = .ok (.getfield 251, 3) := by decide +kernel
theorem dX11_seats_67 : decode cX11_seats 67 = .ok (.ireturn, 1) := by decide +kernel
theorem dX11_seats_68 : decode cX11_seats 68 = .ok (.aload_n 0, 1) := by decide +kernel
theorem dX11_seats_69 : decode cX11_seats 69 = .ok (.getfield 54, 3) := by decide +kernel
theorem dX11_seats_72 : decode cX11_seats 72 = .ok (.getfield 254, 3) := by decide +kernel
theorem dX11_seats_75 : decode cX11_seats 75 = .ok (.ireturn, 1) := by decide +kernel
theorem dX11_seats_76 : decode cX11_seats 76 = .ok (.aload_n 0, 1) := by decide +kernel
theorem dX11_seats_77 : decode cX11_seats 77 = .ok (.getfield 54, 3) := by decide +kernel
theorem dX11_seats_80 : decode cX11_seats 80 = .ok (.getfield 257, 3) := by decide +kernel
theorem dX11_seats_83 : decode cX11_seats 83 = .ok (.ireturn, 1) := by decide +kernel
set_option maxRecDepth 100000 in
def F_X11_seats_b9  (h : Hp) : Option ((Int32 ⊕ Nat) × Hp × Nat × Nat) :=
  some (.inr 3, h, 1, 6)
set_option maxHeartbeats 4000000 in
set_option maxRecDepth 100000 in
theorem r_X11_seats_b9  (h : Hp) {x : Cx} {r : (Int32 ⊕ Nat)} {hz : Hp} {c9 s9 : Nat} (e : F_X11_seats_b9  h = some (r, hz, c9, s9)) (hF : FinO M_X11_seats x (some .int) r hz) : V M_X11_seats x 8 9 [] [] h c9 s9 := by
  unfold F_X11_seats_b9 at e
  cases e
  exact V_throwN (pc := 9) (L := 15) (j := 30) hF th_X11_182_186 rfl (by decide) (Nat.le_of_ble_eq_true rfl) dX11_seats_9 dX11_seats_12 (Or.inl ⟨dX11_seats_13, rfl⟩) dX11_seats_15 dX11_seats_18
set_option maxRecDepth 100000 in
def F_X11_seats_b0 (v0 : Nat) (v1 : Int32) (h : Hp) : Option ((Int32 ⊕ Nat) × Hp × Nat × Nat) :=
  (if v1 < 0 then F_X11_seats_b9 h else (if v1 ≤ (2 : Int32) then gd (decide (kd h v0 = 10)) <| ob (zR h v0 6) fun q2 => ob (zR h v0 1) fun q4 => ob (zR h v0 5) fun q6 => ob2 (F_X5_find q2 q4 q6 h) fun _ h10 => gd (decide (kd h q2 = 5)) <| (if v1 = (0 : Int32) then gd (decide (kd h10 v0 = 10)) <| ob (zR h10 v0 6) fun q13 => gd (decide (kd h10 q13 = 5)) <| some (.inl (zI h10 q13 1), h10, 0, 0) else if v1 = (1 : Int32) then gd (decide (kd h10 v0 = 10)) <| ob (zR h10 v0 6) fun q18 => gd (decide (kd h10 q18 = 5)) <| some (.inl (zI h10 q18 2), h10, 0, 0) else gd (decide (kd h10 v0 = 10)) <| ob (zR h10 v0 6) fun q23 => gd (decide (kd h10 q23 = 5)) <| some (.inl (zI h10 q23 3), h10, 0, 0)) else F_X11_seats_b9 h))
set_option maxHeartbeats 4000000 in
set_option maxRecDepth 100000 in
theorem r_X11_seats_b0 (v0 : Nat) (v1 : Int32) (h : Hp) {x : Cx} {r : (Int32 ⊕ Nat)} {hz : Hp} {c9 s9 : Nat} (e : F_X11_seats_b0 v0 v1 h = some (r, hz, c9, s9)) (hF : FinO M_X11_seats x (some .int) r hz) : V M_X11_seats x 8 0 [(0, .ref v0), (1, .int v1)] [] h c9 s9 := by
  unfold F_X11_seats_b0 at e
  refine V_iload_n (pc := 0) (i := 1) dX11_seats_0 rfl rfl ?_
  refine V_if_lt (pc := 1) (tgt := 9) dX11_seats_1 (by decide) (fun c27 => ?_) (fun c27 => ?_)
  · rw [if_pos c27] at e
    exact V_pick [] rfl (r_X11_seats_b9 h e hF)
  · rw [if_neg c27] at e
    refine V_pick [0, 1] rfl ?_
    refine V_iload_n (pc := 4) (i := 1) dX11_seats_4 rfl rfl ?_
    refine V_iconst (pc := 5) (v := (2 : Int32)) dX11_seats_5 (by decide) ?_
    refine V_icmp_le (pc := 6) (tgt := 19) dX11_seats_6 (by decide) (fun c26 => ?_) (fun c26 => ?_)
    · rw [if_pos c26] at e
      refine V_pick [0, 1] rfl ?_
      refine V_aload_n (pc := 19) (i := 0) dX11_seats_19 rfl rfl ?_
      replace e := gd_some e
      obtain ⟨g1, e⟩ := e
      replace e := ob_some e
      obtain ⟨q2, g3, e⟩ := e
      refine V_getR (pc := 20) (ci := 10) (k := 6) (b := q2) dX11_seats_20 fl_X11_54 rfl (of_decide_eq_true g1) g3 ?_
      refine V_aload_n (pc := 23) (i := 0) dX11_seats_23 rfl rfl ?_
      replace e := ob_some e
      obtain ⟨q4, g5, e⟩ := e
      refine V_getR (pc := 24) (ci := 10) (k := 1) (b := q4) dX11_seats_24 fl_X11_19 rfl (of_decide_eq_true g1) g5 ?_
      refine V_aload_n (pc := 27) (i := 0) dX11_seats_27 rfl rfl ?_
      replace e := ob_some e
      obtain ⟨q6, g7, e⟩ := e
      refine V_getR (pc := 28) (ci := 10) (k := 5) (b := q6) dX11_seats_28 fl_X11_47 rfl (of_decide_eq_true g1) g7 ?_
      replace e := ob2_some e
      obtain ⟨r9, h10, g8, e⟩ := e
      replace e := gd_some e
      obtain ⟨g11, e⟩ := e
      refine V_callV (pc := 31) (bc := c9) (bs := s9) (mc := 0) (ms := 0) (st := []) (As := [.ref q4, .ref q6]) (a := q2) (h' := h10) (r := none) dX11_seats_31 ml_X11_247 (ci := 5) rfl (of_decide_eq_true g11) rfl rfl (Nat.le_of_ble_eq_true rfl) (d' := 6) (by decide) (c_X5_find (l := x.2.1) q2 q4 q6 h g8) ?_
      refine V_iload_n (pc := 34) (i := 1) dX11_seats_34 rfl rfl ?_
      by_cases c16 : v1 = (0 : Int32)
      · rw [if_pos c16] at e
        refine V_lookup (pc := 35) (off := 25) (tgt := 60) dX11_seats_35 (by decide) (by first | (rw [c16]; done) | (rw [c16]; rfl)) (by decide) ?_
        refine V_pick [0] rfl ?_
        refine V_aload_n (pc := 60) (i := 0) dX11_seats_60 rfl rfl ?_
        replace e := gd_some e
        obtain ⟨g12, e⟩ := e
        replace e := ob_some e
        obtain ⟨q13, g14, e⟩ := e
        refine V_getR (pc := 61) (ci := 10) (k := 6) (b := q13) dX11_seats_61 fl_X11_54 rfl (of_decide_eq_true g12) g14 ?_
        replace e := gd_some e
        obtain ⟨g15, e⟩ := e
        refine V_getI (pc := 64) (ci := 5) (k := 1) dX11_seats_64 fl_X11_251 rfl (of_decide_eq_true g15) ?_
        cases e
        exact V_iret (pc := 67) dX11_seats_67 hF
      · rw [if_neg c16] at e
        by_cases c21 : v1 = (1 : Int32)
        · rw [if_pos c21] at e
          refine V_lookup (pc := 35) (off := 33) (tgt := 68) dX11_seats_35 (by decide) (by first | (rw [c21]; done) | (rw [c21]; rfl)) (by decide) ?_
          refine V_pick [0] rfl ?_
          refine V_aload_n (pc := 68) (i := 0) dX11_seats_68 rfl rfl ?_
          replace e := gd_some e
          obtain ⟨g17, e⟩ := e
          replace e := ob_some e
          obtain ⟨q18, g19, e⟩ := e
          refine V_getR (pc := 69) (ci := 10) (k := 6) (b := q18) dX11_seats_69 fl_X11_54 rfl (of_decide_eq_true g17) g19 ?_
          replace e := gd_some e
          obtain ⟨g20, e⟩ := e
          refine V_getI (pc := 72) (ci := 5) (k := 2) dX11_seats_72 fl_X11_254 rfl (of_decide_eq_true g20) ?_
          cases e
          exact V_iret (pc := 75) dX11_seats_75 hF
        · rw [if_neg c21] at e
          refine V_lookup (pc := 35) (off := 41) (tgt := 76) dX11_seats_35 (by decide) (by show (if (0 : Int) = _ then _ else (if (1 : Int) = _ then _ else (41))) = 41; rw [if_neg (fun q => tI_ne c16 (z := 0) (by decide) q.symm), if_neg (fun q => tI_ne c21 (z := 1) (by decide) q.symm)]) (by decide) ?_
          refine V_pick [0] rfl ?_
          refine V_aload_n (pc := 76) (i := 0) dX11_seats_76 rfl rfl ?_
          replace e := gd_some e
          obtain ⟨g22, e⟩ := e
          replace e := ob_some e
          obtain ⟨q23, g24, e⟩ := e
          refine V_getR (pc := 77) (ci := 10) (k := 6) (b := q23) dX11_seats_77 fl_X11_54 rfl (of_decide_eq_true g22) g24 ?_
          replace e := gd_some e
          obtain ⟨g25, e⟩ := e
          refine V_getI (pc := 80) (ci := 5) (k := 3) dX11_seats_80 fl_X11_257 rfl (of_decide_eq_true g25) ?_
          cases e
          exact V_iret (pc := 83) dX11_seats_83 hF
    · rw [if_neg c26] at e
      exact V_pick [] rfl (r_X11_seats_b9 h e hF)
def F_X11_seats (v0 : Nat) (v1 : Int32) (h : Hp) : Option ((Int32 ⊕ Nat) × Hp × Nat × Nat) := F_X11_seats_b0 v0 v1 h
theorem c_X11_seats {l : Launch} (v0 : Nat) (v1 : Int32) (h : Hp) {r : Int32} {hz : Hp} {c9 s9 : Nat} (e : F_X11_seats v0 v1 h = some (.inl r, hz, c9, s9)) : Ct l yX11_seats M_X11_seats (some .int) 8 [.ref v0, .int v1] h c9 s9 (some (.int r)) hz :=
  Ct_of rfl rfl (fun q => by cases q) (Nat.le_of_ble_eq_true rfl) (fun x _ hF => V_pick [0, 1] rfl (r_X11_seats_b0 v0 v1 h e hF))
theorem cX_X11_seats {l : Launch} (hst : l.stackTraces = false) (v0 : Nat) (v1 : Int32) (h : Hp) {k : Nat} {hz : Hp} {c9 s9 : Nat} (e : F_X11_seats v0 v1 h = some (.inr k, hz, c9, s9)) : CtX l yX11_seats M_X11_seats (some .int) 8 [.ref v0, .int v1] h c9 s9 (exN k) hz :=
  CtX_of hst rfl rfl (fun q => by cases q) (Nat.le_of_ble_eq_true rfl) (fun x _ hF => V_pick [0, 1] rfl (r_X11_seats_b0 v0 v1 h e hF))
theorem dX11_bells_0 : decode cX11_bells 0 = .ok (.iload_n 2, 1) := by decide +kernel
theorem dX11_bells_1 : decode cX11_bells 1 = .ok (.iconst (-1), 1) := by decide +kernel
theorem dX11_bells_2 : decode cX11_bells 2 = .ok (.if_icmp .lt 19, 3) := by decide +kernel
theorem dX11_bells_5 : decode cX11_bells 5 = .ok (.iload_n 1, 1) := by decide +kernel
theorem dX11_bells_6 : decode cX11_bells 6 = .ok (.iconst (-1), 1) := by decide +kernel
theorem dX11_bells_7 : decode cX11_bells 7 = .ok (.if_icmp .eq 25, 3) := by decide +kernel
theorem dX11_bells_10 : decode cX11_bells 10 = .ok (.aload_n 0, 1) := by decide +kernel
theorem dX11_bells_11 : decode cX11_bells 11 = .ok (.getfield 19, 3) := by decide +kernel
theorem dX11_bells_14 : decode cX11_bells 14 = .ok (.iload_n 1, 1) := by decide +kernel
theorem dX11_bells_15 : decode cX11_bells 15 = .ok (.invokevirtual 260, 3) := by decide +kernel
theorem dX11_bells_18 : decode cX11_bells 18 = .ok (.ifCond .ne 14, 3) := by decide +kernel
theorem dX11_bells_21 : decode cX11_bells 21 = .ok (.new 91, 3) := by decide +kernel
theorem dX11_bells_24 : decode cX11_bells 24 = .ok (.dup, 1) := by decide +kernel
theorem dX11_bells_25 : decode cX11_bells 25 = .ok (.ldc_w 263, 3) := by decide +kernel
theorem dX11_bells_28 : decode cX11_bells 28 = .ok (.invokespecial 95, 3) := by decide +kernel
theorem dX11_bells_31 : decode cX11_bells 31 = .ok (.athrow, 1) := by decide +kernel
theorem dX11_bells_32 : decode cX11_bells 32 = .ok (.iload_n 1, 1) := by decide +kernel
theorem dX11_bells_33 : decode cX11_bells 33 = .ok (.istore_n 3, 1) := by decide +kernel
theorem dX11_bells_34 : decode cX11_bells 34 = .ok (.iload_n 1, 1) := by decide +kernel
theorem dX11_bells_35 : decode cX11_bells 35 = .ok (.iconst (-1), 1) := by decide +kernel
theorem dX11_bells_36 : decode cX11_bells 36 = .ok (.if_icmp .ne 26, 3) := by decide +kernel
theorem dX11_bells_39 : decode cX11_bells 39 = .ok (.aload_n 0, 1) := by decide +kernel
theorem dX11_bells_40 : decode cX11_bells 40 = .ok (.getfield 54, 3) := by decide +kernel
theorem dX11_bells_43 : decode cX11_bells 43 = .ok (.aload_n 0, 1) := by decide +kernel
theorem dX11_bells_44 : decode cX11_bells 44 = .ok (.getfield 19, 3) := by decide +kernel
theorem dX11_bells_47 : decode cX11_bells 47 = .ok (.aload_n 0, 1) := by decide +kernel
theorem dX11_bells_48 : decode cX11_bells 48 = .ok (.getfield 47, 3) := by decide +kernel
theorem dX11_bells_51 : decode cX11_bells 51 = .ok (.invokevirtual 247, 3) := by decide +kernel
theorem dX11_bells_54 : decode cX11_bells 54 = .ok (.aload_n 0, 1) := by decide +kernel
theorem dX11_bells_55 : decode cX11_bells 55 = .ok (.getfield 54, 3) := by decide +kernel
theorem dX11_bells_58 : decode cX11_bells 58 = .ok (.getfield 251, 3) := by decide +kernel
theorem dX11_bells_61 : decode cX11_bells 61 = .ok (.istore_n 3, 1) := by decide +kernel
theorem dX11_bells_62 : decode cX11_bells 62 = .ok (.iload_n 3, 1) := by decide +kernel
theorem dX11_bells_63 : decode cX11_bells 63 = .ok (.iconst (-1), 1) := by decide +kernel
theorem dX11_bells_64 : decode cX11_bells 64 = .ok (.if_icmp .ne 5, 3) := by decide +kernel
theorem dX11_bells_67 : decode cX11_bells 67 = .ok (.iconst (-1), 1) := by decide +kernel
theorem dX11_bells_68 : decode cX11_bells 68 = .ok (.ireturn, 1) := by decide +kernel
theorem dX11_bells_69 : decode cX11_bells 69 = .ok (.aload_n 0, 1) := by decide +kernel
theorem dX11_bells_70 : decode cX11_bells 70 = .ok (.getfield 61, 3) := by decide +kernel
theorem dX11_bells_73 : decode cX11_bells 73 = .ok (.iload_n 3, 1) := by decide +kernel
theorem dX11_bells_74 : decode cX11_bells 74 = .ok (.aload_n 0, 1) := by decide +kernel
theorem dX11_bells_75 : decode cX11_bells 75 = .ok (.getfield 19, 3) := by decide +kernel
theorem dX11_bells_78 : decode cX11_bells 78 = .ok (.aload_n 0, 1) := by decide +kernel
theorem dX11_bells_79 : decode cX11_bells 79 = .ok (.getfield 47, 3) := by decide +kernel
theorem dX11_bells_82 : decode cX11_bells 82 = .ok (.invokevirtual 265, 3) := by decide +kernel
theorem dX11_bells_85 : decode cX11_bells 85 = .ok (.istore 4, 2) := by decide +kernel
theorem dX11_bells_87 : decode cX11_bells 87 = .ok (.iload_n 2, 1) := by decide +kernel
theorem dX11_bells_88 : decode cX11_bells 88 = .ok (.iconst (-1), 1) := by decide +kernel
theorem dX11_bells_89 : decode cX11_bells 89 = .ok (.if_icmp .ne 6, 3) := by decide +kernel
theorem dX11_bells_92 : decode cX11_bells 92 = .ok (.iload 4, 2) := by decide +kernel
theorem dX11_bells_94 : decode cX11_bells 94 = .ok (.ireturn, 1) := by decide +kernel
theorem dX11_bells_95 : decode cX11_bells 95 = .ok (.iload_n 2, 1) := by decide +kernel
theorem dX11_bells_96 : decode cX11_bells 96 = .ok (.iload 4, 2) := by decide +kernel
theorem dX11_bells_98 : decode cX11_bells 98 = .ok (.if_icmp .ge 18, 3) := by decide +kernel
theorem dX11_bells_101 : decode cX11_bells 101 = .ok (.aload_n 0, 1) := by decide +kernel
theorem dX11_bells_102 : decode cX11_bells 102 = .ok (.getfield 61, 3) := by decide +kernel
theorem dX11_bells_105 : decode cX11_bells 105 = .ok (.iload_n 2, 1) := by decide +kernel
theorem dX11_bells_106 : decode cX11_bells 106 = .ok (.aload_n 0, 1) := by decide +kernel
theorem dX11_bells_107 : decode cX11_bells 107 = .ok (.getfield 19, 3) := by decide +kernel
theorem dX11_bells_110 : decode cX11_bells 110 = .ok (.invokevirtual 269, 3) := by decide +kernel
theorem dX11_bells_113 : decode cX11_bells 113 = .ok (.goto 4, 3) := by decide +kernel
theorem dX11_bells_116 : decode cX11_bells 116 = .ok (.iconst (-1), 1) := by decide +kernel
theorem dX11_bells_117 : decode cX11_bells 117 = .ok (.ireturn, 1) := by decide +kernel
set_option maxRecDepth 100000 in
def F_X11_bells_b21  (h : Hp) : Option ((Int32 ⊕ Nat) × Hp × Nat × Nat) :=
  some (.inr 0, h, 1, 6)
set_option maxHeartbeats 4000000 in
set_option maxRecDepth 100000 in
theorem r_X11_bells_b21  (h : Hp) {x : Cx} {r : (Int32 ⊕ Nat)} {hz : Hp} {c9 s9 : Nat} (e : F_X11_bells_b21  h = some (r, hz, c9, s9)) (hF : FinO M_X11_bells x (some .int) r hz) : V M_X11_bells x 8 21 [] [] h c9 s9 := by
  unfold F_X11_bells_b21 at e
  cases e
  exact V_throwW (pc := 21) (j := 33) hF th_X11_91_95 rfl (by decide) (Nat.le_of_ble_eq_true rfl) dX11_bells_21 dX11_bells_24 dX11_bells_25 dX11_bells_28 dX11_bells_31
set_option maxRecDepth 100000 in
def F_X11_bells_b117 (t0 : Int32) (h : Hp) : Option ((Int32 ⊕ Nat) × Hp × Nat × Nat) :=
  some (.inl t0, h, 0, 0)
set_option maxHeartbeats 4000000 in
set_option maxRecDepth 100000 in
theorem r_X11_bells_b117 (t0 : Int32) (h : Hp) {x : Cx} {r : (Int32 ⊕ Nat)} {hz : Hp} {c9 s9 : Nat} (e : F_X11_bells_b117 t0 h = some (r, hz, c9, s9)) (hF : FinO M_X11_bells x (some .int) r hz) : V M_X11_bells x 8 117 [] [.int t0] h c9 s9 := by
  unfold F_X11_bells_b117 at e
  cases e
  exact V_iret (pc := 117) dX11_bells_117 hF
set_option maxRecDepth 100000 in
def F_X11_bells_b62 (v0 : Nat) (v2 : Int32) (v3 : Int32) (h : Hp) : Option ((Int32 ⊕ Nat) × Hp × Nat × Nat) :=
  (if v3 = (-1 : Int32) then some (.inl (-1 : Int32), h, 0, 0) else gd (decide (kd h v0 = 10)) <| ob (zR h v0 7) fun q2 => ob (zR h v0 1) fun q4 => ob (zR h v0 5) fun q6 => ob4 (F_X4_bellsTo q2 v3 q4 q6 h) fun r9 h10 n11 n12 => ac n11 n12 <| gd (decide (kd h q2 = 4)) <| (if v2 = (-1 : Int32) then some (.inl r9, h10, 0, 0) else (if r9 ≤ v2 then F_X11_bells_b117 (-1 : Int32) h10 else gd (decide (kd h10 v0 = 10)) <| ob (zR h10 v0 7) fun q17 => ob (zR h10 v0 1) fun q19 => ob (F_X4_bellAt q17 v2 q19 h10) fun r22 => gd (decide (kd h10 q17 = 4)) <| F_X11_bells_b117 r22 h10)))
set_option maxHeartbeats 4000000 in
set_option maxRecDepth 100000 in
theorem r_X11_bells_b62 (v0 : Nat) (v2 : Int32) (v3 : Int32) (h : Hp) {x : Cx} {r : (Int32 ⊕ Nat)} {hz : Hp} {c9 s9 : Nat} (e : F_X11_bells_b62 v0 v2 v3 h = some (r, hz, c9, s9)) (hF : FinO M_X11_bells x (some .int) r hz) : V M_X11_bells x 8 62 [(0, .ref v0), (2, .int v2), (3, .int v3)] [] h c9 s9 := by
  unfold F_X11_bells_b62 at e
  refine V_iload_n (pc := 62) (i := 3) dX11_bells_62 rfl rfl ?_
  refine V_iconst (pc := 63) (v := (-1 : Int32)) dX11_bells_63 (by decide) ?_
  refine V_icmp_ne (pc := 64) (tgt := 69) dX11_bells_64 (by decide) (fun c26 => ?_) (fun c26 => ?_)
  · rw [if_neg c26] at e
    refine V_pick [0, 1, 2] rfl ?_
    refine V_aload_n (pc := 69) (i := 0) dX11_bells_69 rfl rfl ?_
    replace e := gd_some e
    obtain ⟨g1, e⟩ := e
    replace e := ob_some e
    obtain ⟨q2, g3, e⟩ := e
    refine V_getR (pc := 70) (ci := 10) (k := 7) (b := q2) dX11_bells_70 fl_X11_61 rfl (of_decide_eq_true g1) g3 ?_
    refine V_iload_n (pc := 73) (i := 3) dX11_bells_73 rfl rfl ?_
    refine V_aload_n (pc := 74) (i := 0) dX11_bells_74 rfl rfl ?_
    replace e := ob_some e
    obtain ⟨q4, g5, e⟩ := e
    refine V_getR (pc := 75) (ci := 10) (k := 1) (b := q4) dX11_bells_75 fl_X11_19 rfl (of_decide_eq_true g1) g5 ?_
    refine V_aload_n (pc := 78) (i := 0) dX11_bells_78 rfl rfl ?_
    replace e := ob_some e
    obtain ⟨q6, g7, e⟩ := e
    refine V_getR (pc := 79) (ci := 10) (k := 5) (b := q6) dX11_bells_79 fl_X11_47 rfl (of_decide_eq_true g1) g7 ?_
    replace e := ob4_some e
    obtain ⟨r9, h10, n11, n12, g8, e⟩ := e
    replace e := ac_some e
    obtain ⟨n13, n14, e, hc9, hs9⟩ := e
    rw [hc9, hs9]
    clear hc9 hs9
    replace e := gd_some e
    obtain ⟨g15, e⟩ := e
    refine V_callV (pc := 82) (bc := n13) (bs := n14) (mc := n11) (ms := n12) (st := []) (As := [.int v3, .ref q4, .ref q6]) (a := q2) (h' := h10) (r := some (.int r9)) dX11_bells_82 ml_X11_265 (ci := 4) rfl (of_decide_eq_true g15) rfl rfl (Nat.le_of_ble_eq_true rfl) (d' := 3) (by decide) (c_X4_bellsTo (l := x.2.1) q2 v3 q4 q6 h g8) ?_
    refine V_istore (pc := 85) (i := 4) (lv' := [(4, .int r9), (0, .ref v0), (2, .int v2), (3, .int v3)]) dX11_bells_85 (by decide) rfl ?_
    refine V_iload_n (pc := 87) (i := 2) dX11_bells_87 rfl rfl ?_
    refine V_iconst (pc := 88) (v := (-1 : Int32)) dX11_bells_88 (by decide) ?_
    refine V_icmp_ne (pc := 89) (tgt := 95) dX11_bells_89 (by decide) (fun c25 => ?_) (fun c25 => ?_)
    · rw [if_neg c25] at e
      refine V_pick [1, 2, 0] rfl ?_
      refine V_iload_n (pc := 95) (i := 2) dX11_bells_95 rfl rfl ?_
      refine V_iload (pc := 96) (i := 4) dX11_bells_96 rfl ?_
      refine V_icmp_ge (pc := 98) (tgt := 116) dX11_bells_98 (by decide) (fun c24 => ?_) (fun c24 => ?_)
      · rw [if_pos c24] at e
        refine V_pick [] rfl ?_
        refine V_iconst (pc := 116) (v := (-1 : Int32)) dX11_bells_116 (by decide) ?_
        exact V_pick [] rfl (r_X11_bells_b117 (-1 : Int32) h10 e hF)
      · rw [if_neg c24] at e
        refine V_pick [0, 1] rfl ?_
        refine V_aload_n (pc := 101) (i := 0) dX11_bells_101 rfl rfl ?_
        replace e := gd_some e
        obtain ⟨g16, e⟩ := e
        replace e := ob_some e
        obtain ⟨q17, g18, e⟩ := e
        refine V_getR (pc := 102) (ci := 10) (k := 7) (b := q17) dX11_bells_102 fl_X11_61 rfl (of_decide_eq_true g16) g18 ?_
        refine V_iload_n (pc := 105) (i := 2) dX11_bells_105 rfl rfl ?_
        refine V_aload_n (pc := 106) (i := 0) dX11_bells_106 rfl rfl ?_
        replace e := ob_some e
        obtain ⟨q19, g20, e⟩ := e
        refine V_getR (pc := 107) (ci := 10) (k := 1) (b := q19) dX11_bells_107 fl_X11_19 rfl (of_decide_eq_true g16) g20 ?_
        replace e := ob_some e
        obtain ⟨r22, g21, e⟩ := e
        replace e := gd_some e
        obtain ⟨g23, e⟩ := e
        refine V_callV (pc := 110) (bc := n13) (bs := n14) (mc := 0) (ms := 0) (st := []) (As := [.int v2, .ref q19]) (a := q17) (h' := h10) (r := some (.int r22)) dX11_bells_110 ml_X11_269 (ci := 4) rfl (of_decide_eq_true g23) rfl rfl (Nat.le_of_ble_eq_true rfl) (d' := 2) (by decide) (c_X4_bellAt (l := x.2.1) q17 v2 q19 h10 g21) ?_
        refine V_goto (pc := 113) (tgt := 117) dX11_bells_113 (by decide) ?_
        exact V_pick [] rfl (r_X11_bells_b117 r22 h10 e hF)
    · rw [if_pos c25] at e
      refine V_pick [0] rfl ?_
      refine V_iload (pc := 92) (i := 4) dX11_bells_92 rfl ?_
      cases e
      exact V_iret (pc := 94) dX11_bells_94 hF
  · rw [if_pos c26] at e
    refine V_pick [] rfl ?_
    refine V_iconst (pc := 67) (v := (-1 : Int32)) dX11_bells_67 (by decide) ?_
    cases e
    exact V_iret (pc := 68) dX11_bells_68 hF
set_option maxRecDepth 100000 in
def F_X11_bells_b32 (v0 : Nat) (v1 : Int32) (v2 : Int32) (h : Hp) : Option ((Int32 ⊕ Nat) × Hp × Nat × Nat) :=
  (if v1 = (-1 : Int32) then gd (decide (kd h v0 = 10)) <| ob (zR h v0 6) fun q28 => ob (zR h v0 1) fun q30 => ob (zR h v0 5) fun q32 => ob2 (F_X5_find q28 q30 q32 h) fun _ h36 => gd (decide (kd h q28 = 5)) <| gd (decide (kd h36 v0 = 10)) <| ob (zR h36 v0 6) fun q39 => gd (decide (kd h36 q39 = 5)) <| F_X11_bells_b62 v0 v2 (zI h36 q39 1) h36 else F_X11_bells_b62 v0 v2 v1 h)
set_option maxHeartbeats 4000000 in
set_option maxRecDepth 100000 in
theorem r_X11_bells_b32 (v0 : Nat) (v1 : Int32) (v2 : Int32) (h : Hp) {x : Cx} {r : (Int32 ⊕ Nat)} {hz : Hp} {c9 s9 : Nat} (e : F_X11_bells_b32 v0 v1 v2 h = some (r, hz, c9, s9)) (hF : FinO M_X11_bells x (some .int) r hz) : V M_X11_bells x 8 32 [(0, .ref v0), (1, .int v1), (2, .int v2)] [] h c9 s9 := by
  unfold F_X11_bells_b32 at e
  refine V_iload_n (pc := 32) (i := 1) dX11_bells_32 rfl rfl ?_
  refine V_istore_n (pc := 33) (i := 3) (lv' := [(3, .int v1), (0, .ref v0), (1, .int v1), (2, .int v2)]) dX11_bells_33 rfl (by decide) rfl ?_
  refine V_iload_n (pc := 34) (i := 1) dX11_bells_34 rfl rfl ?_
  refine V_iconst (pc := 35) (v := (-1 : Int32)) dX11_bells_35 (by decide) ?_
  refine V_icmp_ne (pc := 36) (tgt := 62) dX11_bells_36 (by decide) (fun c42 => ?_) (fun c42 => ?_)
  · rw [if_neg c42] at e
    exact V_pick [1, 3, 0] rfl (r_X11_bells_b62 v0 v2 v1 h e hF)
  · rw [if_pos c42] at e
    refine V_pick [1, 3] rfl ?_
    refine V_aload_n (pc := 39) (i := 0) dX11_bells_39 rfl rfl ?_
    replace e := gd_some e
    obtain ⟨g27, e⟩ := e
    replace e := ob_some e
    obtain ⟨q28, g29, e⟩ := e
    refine V_getR (pc := 40) (ci := 10) (k := 6) (b := q28) dX11_bells_40 fl_X11_54 rfl (of_decide_eq_true g27) g29 ?_
    refine V_aload_n (pc := 43) (i := 0) dX11_bells_43 rfl rfl ?_
    replace e := ob_some e
    obtain ⟨q30, g31, e⟩ := e
    refine V_getR (pc := 44) (ci := 10) (k := 1) (b := q30) dX11_bells_44 fl_X11_19 rfl (of_decide_eq_true g27) g31 ?_
    refine V_aload_n (pc := 47) (i := 0) dX11_bells_47 rfl rfl ?_
    replace e := ob_some e
    obtain ⟨q32, g33, e⟩ := e
    refine V_getR (pc := 48) (ci := 10) (k := 5) (b := q32) dX11_bells_48 fl_X11_47 rfl (of_decide_eq_true g27) g33 ?_
    replace e := ob2_some e
    obtain ⟨r35, h36, g34, e⟩ := e
    replace e := gd_some e
    obtain ⟨g37, e⟩ := e
    refine V_callV (pc := 51) (bc := c9) (bs := s9) (mc := 0) (ms := 0) (st := []) (As := [.ref q30, .ref q32]) (a := q28) (h' := h36) (r := none) dX11_bells_51 ml_X11_247 (ci := 5) rfl (of_decide_eq_true g37) rfl rfl (Nat.le_of_ble_eq_true rfl) (d' := 6) (by decide) (c_X5_find (l := x.2.1) q28 q30 q32 h g34) ?_
    refine V_aload_n (pc := 54) (i := 0) dX11_bells_54 rfl rfl ?_
    replace e := gd_some e
    obtain ⟨g38, e⟩ := e
    replace e := ob_some e
    obtain ⟨q39, g40, e⟩ := e
    refine V_getR (pc := 55) (ci := 10) (k := 6) (b := q39) dX11_bells_55 fl_X11_54 rfl (of_decide_eq_true g38) g40 ?_
    replace e := gd_some e
    obtain ⟨g41, e⟩ := e
    refine V_getI (pc := 58) (ci := 5) (k := 1) dX11_bells_58 fl_X11_251 rfl (of_decide_eq_true g41) ?_
    refine V_istore_n (pc := 61) (i := 3) (lv' := [(3, .int (zI h36 q39 1)), (0, .ref v0), (2, .int v2)]) dX11_bells_61 rfl (by decide) rfl ?_
    exact V_pick [1, 2, 0] rfl (r_X11_bells_b62 v0 v2 (zI h36 q39 1) h36 e hF)
set_option maxRecDepth 100000 in
def F_X11_bells_b0 (v0 : Nat) (v1 : Int32) (v2 : Int32) (h : Hp) : Option ((Int32 ⊕ Nat) × Hp × Nat × Nat) :=
  (if v2 < (-1 : Int32) then F_X11_bells_b21 h else (if v1 = (-1 : Int32) then F_X11_bells_b32 v0 v1 v2 h else gd (decide (kd h v0 = 10)) <| ob (zR h v0 1) fun q44 => ob (F_X2_isSeating q44 v1 h) fun r47 => gd (decide (kd h q44 = 2)) <| (if r47 = 0 then F_X11_bells_b21 h else F_X11_bells_b32 v0 v1 v2 h)))
set_option maxHeartbeats 4000000 in
set_option maxRecDepth 100000 in
theorem r_X11_bells_b0 (v0 : Nat) (v1 : Int32) (v2 : Int32) (h : Hp) {x : Cx} {r : (Int32 ⊕ Nat)} {hz : Hp} {c9 s9 : Nat} (e : F_X11_bells_b0 v0 v1 v2 h = some (r, hz, c9, s9)) (hF : FinO M_X11_bells x (some .int) r hz) : V M_X11_bells x 8 0 [(0, .ref v0), (1, .int v1), (2, .int v2)] [] h c9 s9 := by
  unfold F_X11_bells_b0 at e
  refine V_iload_n (pc := 0) (i := 2) dX11_bells_0 rfl rfl ?_
  refine V_iconst (pc := 1) (v := (-1 : Int32)) dX11_bells_1 (by decide) ?_
  refine V_icmp_lt (pc := 2) (tgt := 21) dX11_bells_2 (by decide) (fun c51 => ?_) (fun c51 => ?_)
  · rw [if_pos c51] at e
    exact V_pick [] rfl (r_X11_bells_b21 h e hF)
  · rw [if_neg c51] at e
    refine V_pick [0, 1, 2] rfl ?_
    refine V_iload_n (pc := 5) (i := 1) dX11_bells_5 rfl rfl ?_
    refine V_iconst (pc := 6) (v := (-1 : Int32)) dX11_bells_6 (by decide) ?_
    refine V_icmp_eq (pc := 7) (tgt := 32) dX11_bells_7 (by decide) (fun c50 => ?_) (fun c50 => ?_)
    · rw [if_pos c50] at e
      exact V_pick [0, 1, 2] rfl (r_X11_bells_b32 v0 v1 v2 h e hF)
    · rw [if_neg c50] at e
      refine V_pick [0, 1, 2] rfl ?_
      refine V_aload_n (pc := 10) (i := 0) dX11_bells_10 rfl rfl ?_
      replace e := gd_some e
      obtain ⟨g43, e⟩ := e
      replace e := ob_some e
      obtain ⟨q44, g45, e⟩ := e
      refine V_getR (pc := 11) (ci := 10) (k := 1) (b := q44) dX11_bells_11 fl_X11_19 rfl (of_decide_eq_true g43) g45 ?_
      refine V_iload_n (pc := 14) (i := 1) dX11_bells_14 rfl rfl ?_
      replace e := ob_some e
      obtain ⟨r47, g46, e⟩ := e
      replace e := gd_some e
      obtain ⟨g48, e⟩ := e
      refine V_callV (pc := 15) (bc := c9) (bs := s9) (mc := 0) (ms := 0) (st := []) (As := [.int v1]) (a := q44) (h' := h) (r := some (.int r47)) dX11_bells_15 ml_X11_260 (ci := 2) rfl (of_decide_eq_true g48) rfl rfl (Nat.le_of_ble_eq_true rfl) (d' := 1) (by decide) (c_X2_isSeating (l := x.2.1) q44 v1 h g46) ?_
      refine V_if_ne (pc := 18) (tgt := 32) dX11_bells_18 (by decide) (fun c49 => ?_) (fun c49 => ?_)
      · rw [if_neg c49] at e
        exact V_pick [0, 1, 2] rfl (r_X11_bells_b32 v0 v1 v2 h e hF)
      · rw [if_pos c49] at e
        exact V_pick [] rfl (r_X11_bells_b21 h e hF)
def F_X11_bells (v0 : Nat) (v1 : Int32) (v2 : Int32) (h : Hp) : Option ((Int32 ⊕ Nat) × Hp × Nat × Nat) := F_X11_bells_b0 v0 v1 v2 h
theorem c_X11_bells {l : Launch} (v0 : Nat) (v1 : Int32) (v2 : Int32) (h : Hp) {r : Int32} {hz : Hp} {c9 s9 : Nat} (e : F_X11_bells v0 v1 v2 h = some (.inl r, hz, c9, s9)) : Ct l yX11_bells M_X11_bells (some .int) 8 [.ref v0, .int v1, .int v2] h c9 s9 (some (.int r)) hz :=
  Ct_of rfl rfl (fun q => by cases q) (Nat.le_of_ble_eq_true rfl) (fun x _ hF => V_pick [0, 1, 2] rfl (r_X11_bells_b0 v0 v1 v2 h e hF))
theorem cX_X11_bells {l : Launch} (hst : l.stackTraces = false) (v0 : Nat) (v1 : Int32) (v2 : Int32) (h : Hp) {k : Nat} {hz : Hp} {c9 s9 : Nat} (e : F_X11_bells v0 v1 v2 h = some (.inr k, hz, c9, s9)) : CtX l yX11_bells M_X11_bells (some .int) 8 [.ref v0, .int v1, .int v2] h c9 s9 (exN k) hz :=
  CtX_of hst rfl rfl (fun q => by cases q) (Nat.le_of_ble_eq_true rfl) (fun x _ hF => V_pick [0, 1, 2] rfl (r_X11_bells_b0 v0 v1 v2 h e hF))

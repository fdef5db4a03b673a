theorem dX7_readLines_0 : decode cX7_readLines 0 = .ok (.aload_n 0, 1) := by decide +kernel
theorem dX7_readLines_1 : decode cX7_readLines 1 = .ok (.iconst 0, 1) := by decide +kernel
theorem dX7_readLines_2 : decode cX7_readLines 2 = .ok (.putfield 7, 3) := by decide +kernel
theorem dX7_readLines_5 : decode cX7_readLines 5 = .ok (.aload_n 1, 1) := by decide +kernel
theorem dX7_readLines_6 : decode cX7_readLines 6 = .ok (.invokevirtual 13, 3) := by decide +kernel
theorem dX7_readLines_9 : decode cX7_readLines 9 = .ok (.aload_n 1, 1) := by decide +kernel
theorem dX7_readLines_10 : decode cX7_readLines 10 = .ok (.invokevirtual 18, 3) := by decide +kernel
theorem dX7_readLines_13 : decode cX7_readLines 13 = .ok (.ifCond .ne 5, 3) := by decide +kernel
theorem dX7_readLines_16 : decode cX7_readLines 16 = .ok (.iconst 1, 1) := by decide +kernel
theorem dX7_readLines_17 : decode cX7_readLines 17 = .ok (.ireturn, 1) := by decide +kernel
theorem dX7_readLines_18 : decode cX7_readLines 18 = .ok (.iconst 0, 1) := by decide +kernel
theorem dX7_readLines_19 : decode cX7_readLines 19 = .ok (.istore 4, 2) := by decide +kernel
theorem dX7_readLines_21 : decode cX7_readLines 21 = .ok (.iload 4, 2) := by decide +kernel
theorem dX7_readLines_23 : decode cX7_readLines 23 = .ok (.iload_n 3, 1) := by decide +kernel
theorem dX7_readLines_24 : decode cX7_readLines 24 = .ok (.if_icmp .ge 50, 3) := by decide +kernel
theorem dX7_readLines_27 : decode cX7_readLines 27 = .ok (.aload_n 0, 1) := by decide +kernel
theorem dX7_readLines_28 : decode cX7_readLines 28 = .ok (.aload_n 1, 1) := by decide +kernel
theorem dX7_readLines_29 : decode cX7_readLines 29 = .ok (.aload_n 2, 1) := by decide +kernel
theorem dX7_readLines_30 : decode cX7_readLines 30 = .ok (.invokevirtual 22, 3) := by decide +kernel
theorem dX7_readLines_33 : decode cX7_readLines 33 = .ok (.ifCond .ne 5, 3) := by decide +kernel
theorem dX7_readLines_36 : decode cX7_readLines 36 = .ok (.iconst 0, 1) := by decide +kernel
theorem dX7_readLines_37 : decode cX7_readLines 37 = .ok (.ireturn, 1) := by decide +kernel
theorem dX7_readLines_38 : decode cX7_readLines 38 = .ok (.aload_n 0, 1) := by decide +kernel
theorem dX7_readLines_39 : decode cX7_readLines 39 = .ok (.dup, 1) := by decide +kernel
theorem dX7_readLines_40 : decode cX7_readLines 40 = .ok (.getfield 7, 3) := by decide +kernel
theorem dX7_readLines_43 : decode cX7_readLines 43 = .ok (.iconst 1, 1) := by decide +kernel
theorem dX7_readLines_44 : decode cX7_readLines 44 = .ok (.iadd, 1) := by decide +kernel
theorem dX7_readLines_45 : decode cX7_readLines 45 = .ok (.putfield 7, 3) := by decide +kernel
theorem dX7_readLines_48 : decode cX7_readLines 48 = .ok (.aload_n 1, 1) := by decide +kernel
theorem dX7_readLines_49 : decode cX7_readLines 49 = .ok (.invokevirtual 18, 3) := by decide +kernel
theorem dX7_readLines_52 : decode cX7_readLines 52 = .ok (.ifCond .ne 5, 3) := by decide +kernel
theorem dX7_readLines_55 : decode cX7_readLines 55 = .ok (.iconst 1, 1) := by decide +kernel
theorem dX7_readLines_56 : decode cX7_readLines 56 = .ok (.ireturn, 1) := by decide +kernel
theorem dX7_readLines_57 : decode cX7_readLines 57 = .ok (.aload_n 1, 1) := by decide +kernel
theorem dX7_readLines_58 : decode cX7_readLines 58 = .ok (.bipush 59, 2) := by decide +kernel
theorem dX7_readLines_60 : decode cX7_readLines 60 = .ok (.invokevirtual 26, 3) := by decide +kernel
theorem dX7_readLines_63 : decode cX7_readLines 63 = .ok (.ifCond .ne 5, 3) := by decide +kernel
theorem dX7_readLines_66 : decode cX7_readLines 66 = .ok (.iconst 0, 1) := by decide +kernel
theorem dX7_readLines_67 : decode cX7_readLines 67 = .ok (.ireturn, 1) := by decide +kernel
theorem dX7_readLines_68 : decode cX7_readLines 68 = .ok (.iinc 4 1, 3) := by decide +kernel
theorem dX7_readLines_71 : decode cX7_readLines 71 = .ok (.goto (-50), 3) := by decide +kernel
theorem dX7_readLines_74 : decode cX7_readLines 74 = .ok (.aload_n 1, 1) := by decide +kernel
theorem dX7_readLines_75 : decode cX7_readLines 75 = .ok (.invokevirtual 30, 3) := by decide +kernel
theorem dX7_readLines_78 : decode cX7_readLines 78 = .ok (.ireturn, 1) := by decide +kernel
set_option maxRecDepth 100000 in
def F_X7_readLines_k0_l21 (v0 : Nat) (v1 : Nat) (v2 : Nat) (v3 : Int32) (v4 : Int32) (h : Hp) : Option ((Int32 × Hp) ⊕ (Hp ⊕ (Hp ⊕ (Hp ⊕ Hp)))) :=
  (if v3 ≤ v4 then some (.inr (.inl h)) else ob2 (F_X0_readLine v0 v1 v2 h) fun r10 h11 => gd (decide (kd h v0 = 0)) <| (if r10 = 0 then some (.inr (.inr (.inl h11))) else gd (decide (kd h11 v0 = 0)) <| ob (F_X6_hasMore v1 (setI h11 v0 0 ((zI h11 v0 0) + (1 : Int32)))) fun r15 => gd (decide (kd (setI h11 v0 0 ((zI h11 v0 0) + (1 : Int32))) v1 = 6)) <| (if r15 = 0 then some (.inr (.inr (.inr (.inl (setI h11 v0 0 ((zI h11 v0 0) + (1 : Int32))))))) else ob2 (F_X6_takeSign v1 (59 : Int32) (setI h11 v0 0 ((zI h11 v0 0) + (1 : Int32)))) fun r18 h19 => (if r18 = 0 then some (.inr (.inr (.inr (.inr h19)))) else some (.inl (v4 + (1 : Int32), h19))))))
set_option maxHeartbeats 4000000 in
set_option maxRecDepth 100000 in
theorem r_X7_readLines_k0_l21 (v0 : Nat) (v1 : Nat) (v2 : Nat) (v3 : Int32) (v4 : Int32) (h : Hp) {x : Cx} {o : ((Int32 × Hp) ⊕ (Hp ⊕ (Hp ⊕ (Hp ⊕ Hp))))} (e : F_X7_readLines_k0_l21 v0 v1 v2 v3 v4 h = some o) (kI : ∀ z, o = .inl z → V M_X7_readLines_k0 x 7 21 [(0, .ref v0), (1, .ref v1), (2, .ref v2), (3, .int v3), (4, .int z.1)] [] z.2 0 0) (kE74 : ∀ z : Hp, o = .inr (.inl z) → V M_X7_readLines_k0 x 7 74 [(1, .ref v1)] [] z 0 0) (kE36 : ∀ z : Hp, o = .inr (.inr (.inl z)) → V M_X7_readLines_k0 x 7 36 [] [] z 0 0) (kE55 : ∀ z : Hp, o = .inr (.inr (.inr (.inl z))) → V M_X7_readLines_k0 x 7 55 [] [] z 0 0) (kE66 : ∀ z : Hp, o = .inr (.inr (.inr (.inr z))) → V M_X7_readLines_k0 x 7 66 [] [] z 0 0) : V M_X7_readLines_k0 x 7 21 [(0, .ref v0), (1, .ref v1), (2, .ref v2), (3, .int v3), (4, .int v4)] [] h 0 0 := by
  unfold F_X7_readLines_k0_l21 at e
  refine V_iload (pc := 21) (i := 4) dX7_readLines_21 rfl ?_
  refine V_iload_n (pc := 23) (i := 3) dX7_readLines_23 rfl rfl ?_
  refine V_icmp_ge (pc := 24) (tgt := 74) dX7_readLines_24 (by decide) (fun c23 => ?_) (fun c23 => ?_)
  · rw [if_pos c23] at e
    cases e
    exact V_pick [1] rfl (kE74 h rfl)
  · rw [if_neg c23] at e
    refine V_pick [0, 1, 2, 3, 4] rfl ?_
    refine V_aload_n (pc := 27) (i := 0) dX7_readLines_27 rfl rfl ?_
    refine V_aload_n (pc := 28) (i := 1) dX7_readLines_28 rfl rfl ?_
    refine V_aload_n (pc := 29) (i := 2) dX7_readLines_29 rfl rfl ?_
    obtain ⟨r10, h11, g9, e⟩ := ob2_some e
    obtain ⟨g12, e⟩ := gd_some e
    refine V_callU (pc := 30) (bc := 0) (bs := 0) (mc := 0) (ms := 0) (st := []) (As := [.ref v1, .ref v2]) (a := v0) (h' := h11) (r := some (.int r10)) dX7_readLines_30 ml_X7_22_k0 (ci := 0) rfl (of_decide_eq_true g12) rfl rfl (Nat.le_of_ble_eq_true rfl) (d' := 6) (by decide) (c_X0_readLine (l := x.2.1) v0 v1 v2 h g9) ?_
    refine V_if_ne (pc := 33) (tgt := 38) dX7_readLines_33 (by decide) (fun c22 => ?_) (fun c22 => ?_)
    · rw [if_neg c22] at e
      refine V_pick [0, 1, 2, 3, 4] rfl ?_
      refine V_aload_n (pc := 38) (i := 0) dX7_readLines_38 rfl rfl ?_
      refine V_dup (pc := 39) dX7_readLines_39 rfl ?_
      obtain ⟨g13, e⟩ := gd_some e
      refine V_getI (pc := 40) (ci := 0) (k := 0) dX7_readLines_40 fl_X7_7_k0 rfl (of_decide_eq_true g13) ?_
      refine V_iconst (pc := 43) (v := (1 : Int32)) dX7_readLines_43 (by decide) ?_
      refine V_iadd (pc := 44) dX7_readLines_44 ?_
      refine V_putI (pc := 45) (ci := 0) (k := 0) dX7_readLines_45 fp_X7_7_k0 rfl (of_decide_eq_true g13) ?_
      refine V_aload_n (pc := 48) (i := 1) dX7_readLines_48 rfl rfl ?_
      obtain ⟨r15, g14, e⟩ := ob_some e
      obtain ⟨g16, e⟩ := gd_some e
      refine V_callV (pc := 49) (bc := 0) (bs := 0) (mc := 0) (ms := 0) (st := []) (As := []) (a := v1) (h' := (setI h11 v0 0 ((zI h11 v0 0) + (1 : Int32)))) (r := some (.int r15)) dX7_readLines_49 ml_X7_18 (ci := 6) rfl (of_decide_eq_true g16) rfl rfl (Nat.le_of_ble_eq_true rfl) (d' := 0) (by decide) (c_X6_hasMore (l := x.2.1) v1 (setI h11 v0 0 ((zI h11 v0 0) + (1 : Int32))) g14) ?_
      refine V_if_ne (pc := 52) (tgt := 57) dX7_readLines_52 (by decide) (fun c21 => ?_) (fun c21 => ?_)
      · rw [if_neg c21] at e
        refine V_pick [0, 1, 2, 3, 4] rfl ?_
        refine V_aload_n (pc := 57) (i := 1) dX7_readLines_57 rfl rfl ?_
        refine V_bipush (pc := 58) (v := (59 : Int32)) dX7_readLines_58 (by decide) ?_
        obtain ⟨r18, h19, g17, e⟩ := ob2_some e
        refine V_callV (pc := 60) (bc := 0) (bs := 0) (mc := 0) (ms := 0) (st := []) (As := [.int (59 : Int32)]) (a := v1) (h' := h19) (r := some (.int r18)) dX7_readLines_60 ml_X7_26 (ci := 6) rfl (of_decide_eq_true g16) rfl rfl (Nat.le_of_ble_eq_true rfl) (d' := 2) (by decide) (c_X6_takeSign (l := x.2.1) v1 (59 : Int32) (setI h11 v0 0 ((zI h11 v0 0) + (1 : Int32))) g17) ?_
        refine V_if_ne (pc := 63) (tgt := 68) dX7_readLines_63 (by decide) (fun c20 => ?_) (fun c20 => ?_)
        · rw [if_neg c20] at e
          refine V_pick [0, 1, 2, 3, 4] rfl ?_
          refine V_iinc (pc := 68) (i := 4) (u := v4 + (1 : Int32)) (lv' := [(4, .int (v4 + (1 : Int32))), (0, .ref v0), (1, .ref v1), (2, .ref v2), (3, .int v3)]) dX7_readLines_68 rfl rfl (by decide) rfl ?_
          refine V_goto (pc := 71) (tgt := 21) dX7_readLines_71 (by decide) ?_
          cases e
          exact V_pick [1, 2, 3, 4, 0] rfl (kI (v4 + (1 : Int32), h19) rfl)
        · rw [if_pos c20] at e
          cases e
          exact V_pick [] rfl (kE66 h19 rfl)
      · rw [if_pos c21] at e
        cases e
        exact V_pick [] rfl (kE55 (setI h11 v0 0 ((zI h11 v0 0) + (1 : Int32))) rfl)
    · rw [if_pos c22] at e
      cases e
      exact V_pick [] rfl (kE36 h11 rfl)
set_option maxRecDepth 100000 in
def F_X7_readLines_k0_b0 (v0 : Nat) (v1 : Nat) (v2 : Nat) (v3 : Int32) (h : Hp) : Option (Int32 × Hp) :=
  gd (decide (kd h v0 = 0)) <| ob2 (F_X6_lookAtFirst v1 (setI h v0 0 (0 : Int32))) fun _ h4 => gd (decide (kd (setI h v0 0 (0 : Int32)) v1 = 6)) <| ob (F_X6_hasMore v1 h4) fun r7 => gd (decide (kd h4 v1 = 6)) <| (if r7 = 0 then some ((1 : Int32), h4) else ob (iter (fun z : Int32 × Hp => F_X7_readLines_k0_l21 v0 v1 v2 v3 z.1 z.2) FU ((0 : Int32), h4)) (fun z => sm z (fun h24 => ob2 (F_X6_refuse v1 h24) fun r26 h27 => gd (decide (kd h24 v1 = 6)) <| gd (decide (r26 = 0 ∨ r26 = 1)) <| some (r26, h27)) (fun z => sm z (fun h30 => some ((0 : Int32), h30)) (fun z => sm z (fun h31 => some ((1 : Int32), h31)) (fun h32 => some ((0 : Int32), h32))))))
set_option maxHeartbeats 4000000 in
set_option maxRecDepth 100000 in
theorem r_X7_readLines_k0_b0 (v0 : Nat) (v1 : Nat) (v2 : Nat) (v3 : Int32) (h : Hp) {x : Cx} {r : Int32} {hz : Hp} (e : F_X7_readLines_k0_b0 v0 v1 v2 v3 h = some (r, hz)) (hF : Fin9 M_X7_readLines_k0 x (some .boolean) (some (.int r)) hz) : V M_X7_readLines_k0 x 7 0 [(0, .ref v0), (1, .ref v1), (2, .ref v2), (3, .int v3)] [] h 0 0 := by
  unfold F_X7_readLines_k0_b0 at e
  refine V_aload_n (pc := 0) (i := 0) dX7_readLines_0 rfl rfl ?_
  refine V_iconst (pc := 1) (v := (0 : Int32)) dX7_readLines_1 (by decide) ?_
  obtain ⟨g1, e⟩ := gd_some e
  refine V_putI (pc := 2) (ci := 0) (k := 0) dX7_readLines_2 fp_X7_7_k0 rfl (of_decide_eq_true g1) ?_
  refine V_aload_n (pc := 5) (i := 1) dX7_readLines_5 rfl rfl ?_
  obtain ⟨r3, h4, g2, e⟩ := ob2_some e
  obtain ⟨g5, e⟩ := gd_some e
  refine V_callV (pc := 6) (bc := 0) (bs := 0) (mc := 0) (ms := 0) (st := []) (As := []) (a := v1) (h' := h4) (r := none) dX7_readLines_6 ml_X7_13 (ci := 6) rfl (of_decide_eq_true g5) rfl rfl (Nat.le_of_ble_eq_true rfl) (d' := 2) (by decide) (c_X6_lookAtFirst (l := x.2.1) v1 (setI h v0 0 (0 : Int32)) g2) ?_
  refine V_aload_n (pc := 9) (i := 1) dX7_readLines_9 rfl rfl ?_
  obtain ⟨r7, g6, e⟩ := ob_some e
  obtain ⟨g8, e⟩ := gd_some e
  refine V_callV (pc := 10) (bc := 0) (bs := 0) (mc := 0) (ms := 0) (st := []) (As := []) (a := v1) (h' := h4) (r := some (.int r7)) dX7_readLines_10 ml_X7_18 (ci := 6) rfl (of_decide_eq_true g8) rfl rfl (Nat.le_of_ble_eq_true rfl) (d' := 0) (by decide) (c_X6_hasMore (l := x.2.1) v1 h4 g6) ?_
  refine V_if_ne (pc := 13) (tgt := 18) dX7_readLines_13 (by decide) (fun c41 => ?_) (fun c41 => ?_)
  · rw [if_neg c41] at e
    refine V_pick [0, 1, 2, 3] rfl ?_
    refine V_iconst (pc := 18) (v := (0 : Int32)) dX7_readLines_18 (by decide) ?_
    refine V_istore (pc := 19) (i := 4) (lv' := [(4, .int (0 : Int32)), (0, .ref v0), (1, .ref v1), (2, .ref v2), (3, .int v3)]) dX7_readLines_19 (by decide) rfl ?_
    refine V_pick [1, 2, 3, 4, 0] rfl ?_
    obtain ⟨y33, g34, e⟩ := ob_some e
    refine iter_V (P := fun z : Int32 × Hp => V M_X7_readLines_k0 x 7 21 [(0, .ref v0), (1, .ref v1), (2, .ref v2), (3, .int v3), (4, .int z.1)] [] z.2 0 0) (E := fun z => Sum.elim (fun z : Hp => V M_X7_readLines_k0 x 7 74 [(1, .ref v1)] [] z 0 0) (fun z => Sum.elim (fun z : Hp => V M_X7_readLines_k0 x 7 36 [] [] z 0 0) (fun z => Sum.elim (fun z : Hp => V M_X7_readLines_k0 x 7 55 [] [] z 0 0) (fun z : Hp => V M_X7_readLines_k0 x 7 66 [] [] z 0 0) z) z) z) (fun z o e9 k1 k2 => r_X7_readLines_k0_l21 v0 v1 v2 v3 z.1 z.2 e9 (fun z hz9 => k1 z hz9) (fun z hz9 => k2 _ hz9) (fun z hz9 => k2 _ hz9) (fun z hz9 => k2 _ hz9) (fun z hz9 => k2 _ hz9)) _ _ _ g34 ?_
    clear g34
    rcases y33 with y35 | y36
    · obtain ⟨h24, rfl⟩ : ∃ q, q = y35 := ⟨_, rfl⟩
      replace e : (ob2 (F_X6_refuse v1 h24) fun r26 h27 => gd (decide (kd h24 v1 = 6)) <| gd (decide (r26 = 0 ∨ r26 = 1)) <| some (r26, h27)) = some (r, hz) := e
      show V M_X7_readLines_k0 x 7 74 [(1, .ref v1)] [] h24 0 0
      refine V_aload_n (pc := 74) (i := 1) dX7_readLines_74 rfl rfl ?_
      obtain ⟨r26, h27, g25, e⟩ := ob2_some e
      obtain ⟨g28, e⟩ := gd_some e
      refine V_callV (pc := 75) (bc := 0) (bs := 0) (mc := 0) (ms := 0) (st := []) (As := []) (a := v1) (h' := h27) (r := some (.int r26)) dX7_readLines_75 ml_X7_30 (ci := 6) rfl (of_decide_eq_true g28) rfl rfl (Nat.le_of_ble_eq_true rfl) (d' := 0) (by decide) (c_X6_refuse (l := x.2.1) v1 h24 g25) ?_
      obtain ⟨g29, e⟩ := gd_some e
      cases e
      exact V_zret (pc := 78) dX7_readLines_78 (z01 (of_decide_eq_true g29)) hF
    · rcases y36 with y37 | y38
      · obtain ⟨h30, rfl⟩ : ∃ q, q = y37 := ⟨_, rfl⟩
        replace e : (some ((0 : Int32), h30)) = some (r, hz) := e
        show V M_X7_readLines_k0 x 7 36 [] [] h30 0 0
        refine V_iconst (pc := 36) (v := (0 : Int32)) dX7_readLines_36 (by decide) ?_
        cases e
        exact V_zret (pc := 37) dX7_readLines_37 rfl hF
      · rcases y38 with y39 | y40
        · obtain ⟨h31, rfl⟩ : ∃ q, q = y39 := ⟨_, rfl⟩
          replace e : (some ((1 : Int32), h31)) = some (r, hz) := e
          show V M_X7_readLines_k0 x 7 55 [] [] h31 0 0
          refine V_iconst (pc := 55) (v := (1 : Int32)) dX7_readLines_55 (by decide) ?_
          cases e
          exact V_zret (pc := 56) dX7_readLines_56 rfl hF
        · obtain ⟨h32, rfl⟩ : ∃ q, q = y40 := ⟨_, rfl⟩
          replace e : (some ((0 : Int32), h32)) = some (r, hz) := e
          show V M_X7_readLines_k0 x 7 66 [] [] h32 0 0
          refine V_iconst (pc := 66) (v := (0 : Int32)) dX7_readLines_66 (by decide) ?_
          cases e
          exact V_zret (pc := 67) dX7_readLines_67 rfl hF
  · rw [if_pos c41] at e
    refine V_pick [] rfl ?_
    refine V_iconst (pc := 16) (v := (1 : Int32)) dX7_readLines_16 (by decide) ?_
    cases e
    exact V_zret (pc := 17) dX7_readLines_17 rfl hF
def F_X7_readLines_k0 (v0 : Nat) (v1 : Nat) (v2 : Nat) (v3 : Int32) (h : Hp) : Option (Int32 × Hp) := F_X7_readLines_k0_b0 v0 v1 v2 v3 h
theorem c_X7_readLines_k0 {l : Launch} (v0 : Nat) (v1 : Nat) (v2 : Nat) (v3 : Int32) (h : Hp) {r : Int32} {hz : Hp} (e : F_X7_readLines_k0 v0 v1 v2 v3 h = some (r, hz)) : Ct l yX7_readLines M_X7_readLines_k0 (some .boolean) 7 [.ref v0, .ref v1, .ref v2, .int v3] h 0 0 (some (.int r)) hz :=
  Ct_of rfl rfl (fun q => by cases q) (Nat.le_of_ble_eq_true rfl) (fun x _ hF => V_pick [0, 1, 2, 3] rfl (r_X7_readLines_k0_b0 v0 v1 v2 v3 h e hF))
theorem dX11_book_0 : decode cX11_book 0 = .ok (.aload_n 0, 1) := by decide +kernel
theorem dX11_book_1 : decode cX11_book 1 = .ok (.getfield 40, 3) := by decide +kernel
theorem dX11_book_4 : decode cX11_book 4 = .ok (.aload_n 0, 1) := by decide +kernel
theorem dX11_book_5 : decode cX11_book 5 = .ok (.getfield 10, 3) := by decide +kernel
theorem dX11_book_8 : decode cX11_book 8 = .ok (.aload_n 0, 1) := by decide +kernel
theorem dX11_book_9 : decode cX11_book 9 = .ok (.getfield 19, 3) := by decide +kernel
theorem dX11_book_12 : decode cX11_book 12 = .ok (.bipush 20, 2) := by decide +kernel
theorem dX11_book_14 : decode cX11_book 14 = .ok (.invokevirtual 133, 3) := by decide +kernel
theorem dX11_book_17 : decode cX11_book 17 = .ok (.istore_n 1, 1) := by decide +kernel
theorem dX11_book_18 : decode cX11_book 18 = .ok (.aload_n 0, 1) := by decide +kernel
theorem dX11_book_19 : decode cX11_book 19 = .ok (.getfield 10, 3) := by decide +kernel
theorem dX11_book_22 : decode cX11_book 22 = .ok (.iconst 0, 1) := by decide +kernel
theorem dX11_book_23 : decode cX11_book 23 = .ok (.putfield 75, 3) := by decide +kernel
theorem dX11_book_26 : decode cX11_book 26 = .ok (.iload_n 1, 1) := by decide +kernel
theorem dX11_book_27 : decode cX11_book 27 = .ok (.ifCond .ne 13, 3) := by decide +kernel
theorem dX11_book_30 : decode cX11_book 30 = .ok (.new 91, 3) := by decide +kernel
theorem dX11_book_33 : decode cX11_book 33 = .ok (.dup, 1) := by decide +kernel
theorem dX11_book_34 : decode cX11_book 34 = .ok (.ldc 93, 2) := by decide +kernel
theorem dX11_book_36 : decode cX11_book 36 = .ok (.invokespecial 95, 3) := by decide +kernel
theorem dX11_book_39 : decode cX11_book 39 = .ok (.athrow, 1) := by decide +kernel
theorem dX11_book_40 : decode cX11_book 40 = .ok (.aload_n 0, 1) := by decide +kernel
theorem dX11_book_41 : decode cX11_book 41 = .ok (.getfield 19, 3) := by decide +kernel
theorem dX11_book_44 : decode cX11_book 44 = .ok (.getfield 134, 3) := by decide +kernel
theorem dX11_book_47 : decode cX11_book 47 = .ok (.aload_n 0, 1) := by decide +kernel
theorem dX11_book_48 : decode cX11_book 48 = .ok (.getfield 40, 3) := by decide +kernel
theorem dX11_book_51 : decode cX11_book 51 = .ok (.invokevirtual 137, 3) := by decide +kernel
theorem dX11_book_54 : decode cX11_book 54 = .ok (.aload_n 0, 1) := by decide +kernel
theorem dX11_book_55 : decode cX11_book 55 = .ok (.getfield 40, 3) := by decide +kernel
theorem dX11_book_58 : decode cX11_book 58 = .ok (.getfield 140, 3) := by decide +kernel
theorem dX11_book_61 : decode cX11_book 61 = .ok (.ireturn, 1) := by decide +kernel
set_option maxRecDepth 100000 in
def F_X11_book_b0 (v0 : Nat) (h : Hp) : Option ((Int32 ⊕ Nat) × Hp × Nat × Nat) :=
  gd (decide (kd h v0 = 10)) <| ob (zR h v0 4) fun q2 => ob (zR h v0 0) fun q4 => ob (zR h v0 1) fun q6 => ob2 (F_X7_readLines_k0 q2 q4 q6 (20 : Int32) h) fun r9 h10 => gd (decide (kd h q2 = 0)) <| gd (decide (kd h10 v0 = 10)) <| ob (zR h10 v0 0) fun q13 => gd (decide (kd h10 q13 = 6)) <| (if r9 = 0 then some (.inr 0, setI h10 q13 1 (0 : Int32), 1, 6) else ob (zR (setI h10 q13 1 (0 : Int32)) v0 1) fun q16 => gd (decide (kd (setI h10 q13 1 (0 : Int32)) q16 = 2)) <| ob (zR (setI h10 q13 1 (0 : Int32)) q16 16) fun q19 => ob (zR (setI h10 q13 1 (0 : Int32)) v0 4) fun q21 => ob2 (F_X0_copyFrom q19 q21 (setI h10 q13 1 (0 : Int32))) fun _ h25 => gd (decide (kd (setI h10 q13 1 (0 : Int32)) q19 = 0)) <| gd (decide (kd h25 v0 = 10)) <| ob (zR h25 v0 4) fun q28 => gd (decide (kd h25 q28 = 0)) <| some (.inl (zI h25 q28 0), h25, 0, 0))
set_option maxHeartbeats 4000000 in
set_option maxRecDepth 100000 in
theorem r_X11_book_b0 (v0 : Nat) (h : Hp) {x : Cx} {r : (Int32 ⊕ Nat)} {hz : Hp} {c9 s9 : Nat} (e : F_X11_book_b0 v0 h = some (r, hz, c9, s9)) (hF : FinO M_X11_book x (some .int) r hz) : V M_X11_book x 8 0 [(0, .ref v0)] [] h c9 s9 := by
  unfold F_X11_book_b0 at e
  refine V_aload_n (pc := 0) (i := 0) dX11_book_0 rfl rfl ?_
  replace e := gd_some e
  obtain ⟨g1, e⟩ := e
  replace e := ob_some e
  obtain ⟨q2, g3, e⟩ := e
  refine V_getR (pc := 1) (ci := 10) (k := 4) (b := q2) dX11_book_1 fl_X11_40 rfl (of_decide_eq_true g1) g3 ?_
  refine V_aload_n (pc := 4) (i := 0) dX11_book_4 rfl rfl ?_
  replace e := ob_some e
  obtain ⟨q4, g5, e⟩ := e
  refine V_getR (pc := 5) (ci := 10) (k := 0) (b := q4) dX11_book_5 fl_X11_10 rfl (of_decide_eq_true g1) g5 ?_
  refine V_aload_n (pc := 8) (i := 0) dX11_book_8 rfl rfl ?_
  replace e := ob_some e
  obtain ⟨q6, g7, e⟩ := e
  refine V_getR (pc := 9) (ci := 10) (k := 1) (b := q6) dX11_book_9 fl_X11_19 rfl (of_decide_eq_true g1) g7 ?_
  refine V_bipush (pc := 12) (v := (20 : Int32)) dX11_book_12 (by decide) ?_
  replace e := ob2_some e
  obtain ⟨r9, h10, g8, e⟩ := e
  replace e := gd_some e
  obtain ⟨g11, e⟩ := e
  refine V_callU (pc := 14) (bc := c9) (bs := s9) (mc := 0) (ms := 0) (st := []) (As := [.ref q4, .ref q6, .int (20 : Int32)]) (a := q2) (h' := h10) (r := some (.int r9)) dX11_book_14 ml_X11_133 (ci := 0) rfl (of_decide_eq_true g11) rfl rfl (Nat.le_of_ble_eq_true rfl) (d' := 7) (by decide) (c_X7_readLines_k0 (l := x.2.1) q2 q4 q6 (20 : Int32) h g8) ?_
  refine V_istore_n (pc := 17) (i := 1) (lv' := [(1, .int r9), (0, .ref v0)]) dX11_book_17 rfl (by decide) rfl ?_
  refine V_aload_n (pc := 18) (i := 0) dX11_book_18 rfl rfl ?_
  replace e := gd_some e
  obtain ⟨g12, e⟩ := e
  replace e := ob_some e
  obtain ⟨q13, g14, e⟩ := e
  refine V_getR (pc := 19) (ci := 10) (k := 0) (b := q13) dX11_book_19 fl_X11_10 rfl (of_decide_eq_true g12) g14 ?_
  refine V_iconst (pc := 22) (v := (0 : Int32)) dX11_book_22 (by decide) ?_
  replace e := gd_some e
  obtain ⟨g15, e⟩ := e
  refine V_putI (pc := 23) (ci := 6) (k := 1) dX11_book_23 fp_X11_75 rfl (of_decide_eq_true g15) ?_
  refine V_iload_n (pc := 26) (i := 1) dX11_book_26 rfl rfl ?_
  refine V_if_ne (pc := 27) (tgt := 40) dX11_book_27 (by decide) (fun c31 => ?_) (fun c31 => ?_)
  · rw [if_neg c31] at e
    refine V_pick [1] rfl ?_
    refine V_aload_n (pc := 40) (i := 0) dX11_book_40 rfl rfl ?_
    replace e := ob_some e
    obtain ⟨q16, g17, e⟩ := e
    refine V_getR (pc := 41) (ci := 10) (k := 1) (b := q16) dX11_book_41 fl_X11_19 rfl (kd_sI (of_decide_eq_true g12)) g17 ?_
    replace e := gd_some e
    obtain ⟨g18, e⟩ := e
    replace e := ob_some e
    obtain ⟨q19, g20, e⟩ := e
    refine V_getR (pc := 44) (ci := 2) (k := 16) (b := q19) dX11_book_44 fl_X11_134 rfl (of_decide_eq_true g18) g20 ?_
    refine V_aload_n (pc := 47) (i := 0) dX11_book_47 rfl rfl ?_
    replace e := ob_some e
    obtain ⟨q21, g22, e⟩ := e
    refine V_getR (pc := 48) (ci := 10) (k := 4) (b := q21) dX11_book_48 fl_X11_40 rfl (kd_sI (of_decide_eq_true g12)) g22 ?_
    replace e := ob2_some e
    obtain ⟨r24, h25, g23, e⟩ := e
    replace e := gd_some e
    obtain ⟨g26, e⟩ := e
    refine V_callV (pc := 51) (bc := c9) (bs := s9) (mc := 0) (ms := 0) (st := []) (As := [.ref q21]) (a := q19) (h' := h25) (r := none) dX11_book_51 ml_X11_137 (ci := 0) rfl (of_decide_eq_true g26) rfl rfl (Nat.le_of_ble_eq_true rfl) (d' := 1) (by decide) (c_X0_copyFrom (l := x.2.1) q19 q21 (setI h10 q13 1 (0 : Int32)) g23) ?_
    refine V_aload_n (pc := 54) (i := 0) dX11_book_54 rfl rfl ?_
    replace e := gd_some e
    obtain ⟨g27, e⟩ := e
    replace e := ob_some e
    obtain ⟨q28, g29, e⟩ := e
    refine V_getR (pc := 55) (ci := 10) (k := 4) (b := q28) dX11_book_55 fl_X11_40 rfl (of_decide_eq_true g27) g29 ?_
    replace e := gd_some e
    obtain ⟨g30, e⟩ := e
    refine V_getI (pc := 58) (ci := 0) (k := 0) dX11_book_58 fl_X11_140 rfl (of_decide_eq_true g30) ?_
    cases e
    exact V_iret (pc := 61) dX11_book_61 hF
  · rw [if_pos c31] at e
    refine V_pick [] rfl ?_
    cases e
    exact V_throw (pc := 30) (j := 26) hF th_X11_91_95 rfl (by decide) (Nat.le_of_ble_eq_true rfl) dX11_book_30 dX11_book_33 dX11_book_34 dX11_book_36 dX11_book_39
def F_X11_book (v0 : Nat) (h : Hp) : Option ((Int32 ⊕ Nat) × Hp × Nat × Nat) := F_X11_book_b0 v0 h
theorem c_X11_book {l : Launch} (v0 : Nat) (h : Hp) {r : Int32} {hz : Hp} {c9 s9 : Nat} (e : F_X11_book v0 h = some (.inl r, hz, c9, s9)) : Ct l yX11_book M_X11_book (some .int) 8 [.ref v0] h c9 s9 (some (.int r)) hz :=
  Ct_of rfl rfl (fun q => by cases q) (Nat.le_of_ble_eq_true rfl) (fun x _ hF => V_pick [0] rfl (r_X11_book_b0 v0 h e hF))
theorem cX_X11_book {l : Launch} (hst : l.stackTraces = false) (v0 : Nat) (h : Hp) {k : Nat} {hz : Hp} {c9 s9 : Nat} (e : F_X11_book v0 h = some (.inr k, hz, c9, s9)) : CtX l yX11_book M_X11_book (some .int) 8 [.ref v0] h c9 s9 (exN k) hz :=
  CtX_of hst rfl rfl (fun q => by cases q) (Nat.le_of_ble_eq_true rfl) (fun x _ hF => V_pick [0] rfl (r_X11_book_b0 v0 h e hF))
theorem dX11_level_0 : decode cX11_level 0 = .ok (.aload_n 0, 1) := by decide +kernel
theorem dX11_level_1 : decode cX11_level 1 = .ok (.getfield 19, 3) := by decide +kernel
theorem dX11_level_4 : decode cX11_level 4 = .ok (.aload_n 0, 1) := by decide +kernel
theorem dX11_level_5 : decode cX11_level 5 = .ok (.getfield 19, 3) := by decide +kernel
theorem dX11_level_8 : decode cX11_level 8 = .ok (.aload_n 0, 1) := by decide +kernel
theorem dX11_level_9 : decode cX11_level 9 = .ok (.getfield 19, 3) := by decide +kernel
theorem dX11_level_12 : decode cX11_level 12 = .ok (.getfield 149, 3) := by decide +kernel
theorem dX11_level_15 : decode cX11_level 15 = .ok (.invokevirtual 203, 3) := by decide +kernel
theorem dX11_level_18 : decode cX11_level 18 = .ok (.aload_n 0, 1) := by decide +kernel
theorem dX11_level_19 : decode cX11_level 19 = .ok (.getfield 19, 3) := by decide +kernel
theorem dX11_level_22 : decode cX11_level 22 = .ok (.aload_n 0, 1) := by decide +kernel
theorem dX11_level_23 : decode cX11_level 23 = .ok (.getfield 19, 3) := by decide +kernel
theorem dX11_level_26 : decode cX11_level 26 = .ok (.getfield 153, 3) := by decide +kernel
theorem dX11_level_29 : decode cX11_level 29 = .ok (.invokevirtual 203, 3) := by decide +kernel
theorem dX11_level_32 : decode cX11_level 32 = .ok (.aload_n 0, 1) := by decide +kernel
theorem dX11_level_33 : decode cX11_level 33 = .ok (.getfield 19, 3) := by decide +kernel
theorem dX11_level_36 : decode cX11_level 36 = .ok (.getfield 173, 3) := by decide +kernel
theorem dX11_level_39 : decode cX11_level 39 = .ok (.invokevirtual 213, 3) := by decide +kernel
theorem dX11_level_42 : decode cX11_level 42 = .ok (.ireturn, 1) := by decide +kernel
set_option maxRecDepth 100000 in
def F_X11_level_b0 (v0 : Nat) (h : Hp) : Option Int32 :=
  gd (decide (kd h v0 = 10)) <| ob (zR h v0 1) fun q2 => ob (zR h v0 1) fun q4 => ob (zR h v0 1) fun q6 => gd (decide (kd h q6 = 2)) <| ob (zR h q6 1) fun q9 => ob (F_X2_net q4 q9 h) fun r12 => gd (decide (kd h q4 = 2)) <| ob (zR h v0 1) fun q14 => ob (zR h v0 1) fun q16 => gd (decide (kd h q16 = 2)) <| ob (zR h q16 2) fun q19 => ob (F_X2_net q14 q19 h) fun r22 => gd (decide (kd h q14 = 2)) <| ob (zR h v0 1) fun q24 => gd (decide (kd h q24 = 2)) <| ob (zR h q24 9) fun q27 => ob (F_X2_isLevelAt q2 r12 r22 q27 h) fun r30 => gd (decide (kd h q2 = 2)) <| gd (decide (r30 = 0 ∨ r30 = 1)) <| some r30
set_option maxHeartbeats 4000000 in
set_option maxRecDepth 100000 in
theorem r_X11_level_b0 (v0 : Nat) (h : Hp) {x : Cx} {r : Int32} (e : F_X11_level_b0 v0 h = some r) (hF : Fin9 M_X11_level x (some .boolean) (some (.int r)) h) : V M_X11_level x 2 0 [(0, .ref v0)] [] h 0 0 := by
  unfold F_X11_level_b0 at e
  refine V_aload_n (pc := 0) (i := 0) dX11_level_0 rfl rfl ?_
  obtain ⟨g1, e⟩ := gd_some e
  obtain ⟨q2, g3, e⟩ := ob_some e
  refine V_getR (pc := 1) (ci := 10) (k := 1) (b := q2) dX11_level_1 fl_X11_19 rfl (of_decide_eq_true g1) g3 ?_
  refine V_aload_n (pc := 4) (i := 0) dX11_level_4 rfl rfl ?_
  obtain ⟨q4, g5, e⟩ := ob_some e
  refine V_getR (pc := 5) (ci := 10) (k := 1) (b := q4) dX11_level_5 fl_X11_19 rfl (of_decide_eq_true g1) g5 ?_
  refine V_aload_n (pc := 8) (i := 0) dX11_level_8 rfl rfl ?_
  obtain ⟨q6, g7, e⟩ := ob_some e
  refine V_getR (pc := 9) (ci := 10) (k := 1) (b := q6) dX11_level_9 fl_X11_19 rfl (of_decide_eq_true g1) g7 ?_
  obtain ⟨g8, e⟩ := gd_some e
  obtain ⟨q9, g10, e⟩ := ob_some e
  refine V_getR (pc := 12) (ci := 2) (k := 1) (b := q9) dX11_level_12 fl_X11_149 rfl (of_decide_eq_true g8) g10 ?_
  obtain ⟨r12, g11, e⟩ := ob_some e
  obtain ⟨g13, e⟩ := gd_some e
  refine V_callV (pc := 15) (bc := 0) (bs := 0) (mc := 0) (ms := 0) (st := [.ref q2]) (As := [.ref q9]) (a := q4) (h' := h) (r := some (.int r12)) dX11_level_15 ml_X11_203 (ci := 2) rfl (of_decide_eq_true g13) rfl rfl (Nat.le_of_ble_eq_true rfl) (d' := 1) (by decide) (c_X2_net (l := x.2.1) q4 q9 h g11) ?_
  refine V_aload_n (pc := 18) (i := 0) dX11_level_18 rfl rfl ?_
  obtain ⟨q14, g15, e⟩ := ob_some e
  refine V_getR (pc := 19) (ci := 10) (k := 1) (b := q14) dX11_level_19 fl_X11_19 rfl (of_decide_eq_true g1) g15 ?_
  refine V_aload_n (pc := 22) (i := 0) dX11_level_22 rfl rfl ?_
  obtain ⟨q16, g17, e⟩ := ob_some e
  refine V_getR (pc := 23) (ci := 10) (k := 1) (b := q16) dX11_level_23 fl_X11_19 rfl (of_decide_eq_true g1) g17 ?_
  obtain ⟨g18, e⟩ := gd_some e
  obtain ⟨q19, g20, e⟩ := ob_some e
  refine V_getR (pc := 26) (ci := 2) (k := 2) (b := q19) dX11_level_26 fl_X11_153 rfl (of_decide_eq_true g18) g20 ?_
  obtain ⟨r22, g21, e⟩ := ob_some e
  obtain ⟨g23, e⟩ := gd_some e
  refine V_callV (pc := 29) (bc := 0) (bs := 0) (mc := 0) (ms := 0) (st := [.int r12, .ref q2]) (As := [.ref q19]) (a := q14) (h' := h) (r := some (.int r22)) dX11_level_29 ml_X11_203 (ci := 2) rfl (of_decide_eq_true g23) rfl rfl (Nat.le_of_ble_eq_true rfl) (d' := 1) (by decide) (c_X2_net (l := x.2.1) q14 q19 h g21) ?_
  refine V_aload_n (pc := 32) (i := 0) dX11_level_32 rfl rfl ?_
  obtain ⟨q24, g25, e⟩ := ob_some e
  refine V_getR (pc := 33) (ci := 10) (k := 1) (b := q24) dX11_level_33 fl_X11_19 rfl (of_decide_eq_true g1) g25 ?_
  obtain ⟨g26, e⟩ := gd_some e
  obtain ⟨q27, g28, e⟩ := ob_some e
  refine V_getR (pc := 36) (ci := 2) (k := 9) (b := q27) dX11_level_36 fl_X11_173 rfl (of_decide_eq_true g26) g28 ?_
  obtain ⟨r30, g29, e⟩ := ob_some e
  obtain ⟨g31, e⟩ := gd_some e
  refine V_callV (pc := 39) (bc := 0) (bs := 0) (mc := 0) (ms := 0) (st := []) (As := [.int r12, .int r22, .ref q27]) (a := q2) (h' := h) (r := some (.int r30)) dX11_level_39 ml_X11_213 (ci := 2) rfl (of_decide_eq_true g31) rfl rfl (Nat.le_of_ble_eq_true rfl) (d' := 1) (by decide) (c_X2_isLevelAt (l := x.2.1) q2 r12 r22 q27 h g29) ?_
  obtain ⟨g32, e⟩ := gd_some e
  cases e
  exact V_zret (pc := 42) dX11_level_42 (z01 (of_decide_eq_true g32)) hF
def F_X11_level (v0 : Nat) (h : Hp) : Option Int32 := F_X11_level_b0 v0 h
theorem c_X11_level {l : Launch} (v0 : Nat) (h : Hp) {r : Int32} (e : F_X11_level v0 h = some r) : Ct l yX11_level M_X11_level (some .boolean) 2 [.ref v0] h 0 0 (some (.int r)) h :=
  Ct_of rfl rfl (fun q => by cases q) (Nat.le_of_ble_eq_true rfl) (fun x _ hF => V_pick [0] rfl (r_X11_level_b0 v0 h e hF))
theorem dX11_wake_0 : decode cX11_wake 0 = .ok (.iconst (-1), 1) := by decide +kernel
theorem dX11_wake_1 : decode cX11_wake 1 = .ok (.istore_n 2, 1) := by decide +kernel
theorem dX11_wake_2 : decode cX11_wake 2 = .ok (.iconst (-1), 1) := by decide +kernel
theorem dX11_wake_3 : decode cX11_wake 3 = .ok (.istore_n 3, 1) := by decide +kernel
theorem dX11_wake_4 : decode cX11_wake 4 = .ok (.aload_n 0, 1) := by decide +kernel
theorem dX11_wake_5 : decode cX11_wake 5 = .ok (.getfield 47, 3) := by decide +kernel
theorem dX11_wake_8 : decode cX11_wake 8 = .ok (.aload_n 0, 1) := by decide +kernel
theorem dX11_wake_9 : decode cX11_wake 9 = .ok (.getfield 19, 3) := by decide +kernel
theorem dX11_wake_12 : decode cX11_wake 12 = .ok (.aload_n 0, 1) := by decide +kernel
theorem dX11_wake_13 : decode cX11_wake 13 = .ok (.getfield 19, 3) := by decide +kernel
theorem dX11_wake_16 : decode cX11_wake 16 = .ok (.getfield 279, 3) := by decide +kernel
theorem dX11_wake_19 : decode cX11_wake 19 = .ok (.invokevirtual 282, 3) := by decide +kernel
theorem dX11_wake_22 : decode cX11_wake 22 = .ok (.iconst 0, 1) := by decide +kernel
theorem dX11_wake_23 : decode cX11_wake 23 = .ok (.istore 4, 2) := by decide +kernel
theorem dX11_wake_25 : decode cX11_wake 25 = .ok (.iload 4, 2) := by decide +kernel
theorem dX11_wake_27 : decode cX11_wake 27 = .ok (.ldc_w 286, 3) := by decide +kernel
theorem dX11_wake_30 : decode cX11_wake 30 = .ok (.if_icmp .ge 78, 3) := by decide +kernel
theorem dX11_wake_33 : decode cX11_wake 33 = .ok (.aload_n 0, 1) := by decide +kernel
theorem dX11_wake_34 : decode cX11_wake 34 = .ok (.getfield 47, 3) := by decide +kernel
theorem dX11_wake_37 : decode cX11_wake 37 = .ok (.aload_n 0, 1) := by decide +kernel
theorem dX11_wake_38 : decode cX11_wake 38 = .ok (.getfield 19, 3) := by decide +kernel
theorem dX11_wake_41 : decode cX11_wake 41 = .ok (.invokevirtual 287, 3) := by decide +kernel
theorem dX11_wake_44 : decode cX11_wake 44 = .ok (.ifCond .eq 64, 3) := by decide +kernel
theorem dX11_wake_47 : decode cX11_wake 47 = .ok (.aload_n 0, 1) := by decide +kernel
theorem dX11_wake_48 : decode cX11_wake 48 = .ok (.getfield 47, 3) := by decide +kernel
theorem dX11_wake_51 : decode cX11_wake 51 = .ok (.invokevirtual 291, 3) := by decide +kernel
theorem dX11_wake_54 : decode cX11_wake 54 = .ok (.ifCond .eq 48, 3) := by decide +kernel
theorem dX11_wake_57 : decode cX11_wake 57 = .ok (.aload_n 0, 1) := by decide +kernel
theorem dX11_wake_58 : decode cX11_wake 58 = .ok (.getfield 19, 3) := by decide +kernel
theorem dX11_wake_61 : decode cX11_wake 61 = .ok (.aload_n 0, 1) := by decide +kernel
theorem dX11_wake_62 : decode cX11_wake 62 = .ok (.getfield 47, 3) := by decide +kernel
theorem dX11_wake_65 : decode cX11_wake 65 = .ok (.getfield 295, 3) := by decide +kernel
theorem dX11_wake_68 : decode cX11_wake 68 = .ok (.invokevirtual 296, 3) := by decide +kernel
theorem dX11_wake_71 : decode cX11_wake 71 = .ok (.istore 5, 2) := by decide +kernel
theorem dX11_wake_73 : decode cX11_wake 73 = .ok (.iload_n 2, 1) := by decide +kernel
theorem dX11_wake_74 : decode cX11_wake 74 = .ok (.iconst (-1), 1) := by decide +kernel
theorem dX11_wake_75 : decode cX11_wake 75 = .ok (.if_icmp .eq 9, 3) := by decide +kernel
theorem dX11_wake_78 : decode cX11_wake 78 = .ok (.iload 5, 2) := by decide +kernel
theorem dX11_wake_80 : decode cX11_wake 80 = .ok (.iload_n 2, 1) := by decide +kernel
theorem dX11_wake_81 : decode cX11_wake 81 = .ok (.if_icmp .ge 21, 3) := by decide +kernel
theorem dX11_wake_84 : decode cX11_wake 84 = .ok (.iload 5, 2) := by decide +kernel
theorem dX11_wake_86 : decode cX11_wake 86 = .ok (.istore_n 2, 1) := by decide +kernel
theorem dX11_wake_87 : decode cX11_wake 87 = .ok (.aload_n 0, 1) := by decide +kernel
theorem dX11_wake_88 : decode cX11_wake 88 = .ok (.getfield 19, 3) := by decide +kernel
theorem dX11_wake_91 : decode cX11_wake 91 = .ok (.aload_n 0, 1) := by decide +kernel
theorem dX11_wake_92 : decode cX11_wake 92 = .ok (.getfield 47, 3) := by decide +kernel
theorem dX11_wake_95 : decode cX11_wake 95 = .ok (.getfield 295, 3) := by decide +kernel
theorem dX11_wake_98 : decode cX11_wake 98 = .ok (.invokevirtual 217, 3) := by decide +kernel
theorem dX11_wake_101 : decode cX11_wake 101 = .ok (.istore_n 3, 1) := by decide +kernel
theorem dX11_wake_102 : decode cX11_wake 102 = .ok (.iinc 4 1, 3) := by decide +kernel
theorem dX11_wake_105 : decode cX11_wake 105 = .ok (.goto (-80), 3) := by decide +kernel
theorem dX11_wake_108 : decode cX11_wake 108 = .ok (.iload_n 1, 1) := by decide +kernel
theorem dX11_wake_109 : decode cX11_wake 109 = .ok (.ifCond .eq 7, 3) := by decide +kernel
theorem dX11_wake_112 : decode cX11_wake 112 = .ok (.iload_n 3, 1) := by decide +kernel
theorem dX11_wake_113 : decode cX11_wake 113 = .ok (.goto 4, 3) := by decide +kernel
theorem dX11_wake_116 : decode cX11_wake 116 = .ok (.iload_n 2, 1) := by decide +kernel
theorem dX11_wake_117 : decode cX11_wake 117 = .ok (.ireturn, 1) := by decide +kernel
set_option maxRecDepth 100000 in
def F_X11_wake_b102 (v0 : Nat) (v1 : Int32) (v2 : Int32) (v3 : Int32) (v4 : Int32) (h : Hp) : Option ((Int32 × Int32 × Int32 × Hp) ⊕ (Int32 × Int32 × Hp)) :=
  some (.inl (v2, v3, v4 + (1 : Int32), h))
set_option maxHeartbeats 4000000 in
set_option maxRecDepth 100000 in
theorem r_X11_wake_b102 (v0 : Nat) (v1 : Int32) (v2 : Int32) (v3 : Int32) (v4 : Int32) (h : Hp) {x : Cx} {o : ((Int32 × Int32 × Int32 × Hp) ⊕ (Int32 × Int32 × Hp))} (e : F_X11_wake_b102 v0 v1 v2 v3 v4 h = some o) (kI : ∀ z, o = .inl z → V M_X11_wake x 2 25 [(0, .ref v0), (1, .int v1), (2, .int z.1), (3, .int z.2.1), (4, .int z.2.2.1)] [] z.2.2.2 0 0) (kE108 : ∀ z : Int32 × Int32 × Hp, o = .inr z → V M_X11_wake x 2 108 [(1, .int v1), (2, .int z.1), (3, .int z.2.1)] [] z.2.2 0 0) : V M_X11_wake x 2 102 [(0, .ref v0), (1, .int v1), (2, .int v2), (3, .int v3), (4, .int v4)] [] h 0 0 := by
  unfold F_X11_wake_b102 at e
  refine V_iinc (pc := 102) (i := 4) (u := v4 + (1 : Int32)) (lv' := [(4, .int (v4 + (1 : Int32))), (0, .ref v0), (1, .int v1), (2, .int v2), (3, .int v3)]) dX11_wake_102 rfl rfl (by decide) rfl ?_
  refine V_goto (pc := 105) (tgt := 25) dX11_wake_105 (by decide) ?_
  cases e
  exact V_pick [1, 2, 3, 4, 0] rfl (kI (v2, v3, v4 + (1 : Int32), h) rfl)
set_option maxRecDepth 100000 in
def F_X11_wake_b84 (v0 : Nat) (v1 : Int32) (v4 : Int32) (v5 : Int32) (h : Hp) : Option ((Int32 × Int32 × Int32 × Hp) ⊕ (Int32 × Int32 × Hp)) :=
  gd (decide (kd h v0 = 10)) <| ob (zR h v0 1) fun q39 => ob (zR h v0 5) fun q41 => gd (decide (kd h q41 = 8)) <| ob (zR h q41 0) fun q44 => ob (F_X2_asNumber q39 q44 h) fun r47 => gd (decide (kd h q39 = 2)) <| F_X11_wake_b102 v0 v1 v5 r47 v4 h
set_option maxHeartbeats 4000000 in
set_option maxRecDepth 100000 in
theorem r_X11_wake_b84 (v0 : Nat) (v1 : Int32) (v4 : Int32) (v5 : Int32) (h : Hp) {x : Cx} {o : ((Int32 × Int32 × Int32 × Hp) ⊕ (Int32 × Int32 × Hp))} (e : F_X11_wake_b84 v0 v1 v4 v5 h = some o) (kI : ∀ z, o = .inl z → V M_X11_wake x 2 25 [(0, .ref v0), (1, .int v1), (2, .int z.1), (3, .int z.2.1), (4, .int z.2.2.1)] [] z.2.2.2 0 0) (kE108 : ∀ z : Int32 × Int32 × Hp, o = .inr z → V M_X11_wake x 2 108 [(1, .int v1), (2, .int z.1), (3, .int z.2.1)] [] z.2.2 0 0) : V M_X11_wake x 2 84 [(0, .ref v0), (1, .int v1), (4, .int v4), (5, .int v5)] [] h 0 0 := by
  unfold F_X11_wake_b84 at e
  refine V_iload (pc := 84) (i := 5) dX11_wake_84 rfl ?_
  refine V_istore_n (pc := 86) (i := 2) (lv' := [(2, .int v5), (0, .ref v0), (1, .int v1), (4, .int v4), (5, .int v5)]) dX11_wake_86 rfl (by decide) rfl ?_
  refine V_aload_n (pc := 87) (i := 0) dX11_wake_87 rfl rfl ?_
  obtain ⟨g38, e⟩ := gd_some e
  obtain ⟨q39, g40, e⟩ := ob_some e
  refine V_getR (pc := 88) (ci := 10) (k := 1) (b := q39) dX11_wake_88 fl_X11_19 rfl (of_decide_eq_true g38) g40 ?_
  refine V_aload_n (pc := 91) (i := 0) dX11_wake_91 rfl rfl ?_
  obtain ⟨q41, g42, e⟩ := ob_some e
  refine V_getR (pc := 92) (ci := 10) (k := 5) (b := q41) dX11_wake_92 fl_X11_47 rfl (of_decide_eq_true g38) g42 ?_
  obtain ⟨g43, e⟩ := gd_some e
  obtain ⟨q44, g45, e⟩ := ob_some e
  refine V_getR (pc := 95) (ci := 8) (k := 0) (b := q44) dX11_wake_95 fl_X11_295 rfl (of_decide_eq_true g43) g45 ?_
  obtain ⟨r47, g46, e⟩ := ob_some e
  obtain ⟨g48, e⟩ := gd_some e
  refine V_callV (pc := 98) (bc := 0) (bs := 0) (mc := 0) (ms := 0) (st := []) (As := [.ref q44]) (a := q39) (h' := h) (r := some (.int r47)) dX11_wake_98 ml_X11_217 (ci := 2) rfl (of_decide_eq_true g48) rfl rfl (Nat.le_of_ble_eq_true rfl) (d' := 0) (by decide) (c_X2_asNumber (l := x.2.1) q39 q44 h g46) ?_
  refine V_istore_n (pc := 101) (i := 3) (lv' := [(3, .int r47), (2, .int v5), (0, .ref v0), (1, .int v1), (4, .int v4), (5, .int v5)]) dX11_wake_101 rfl (by decide) rfl ?_
  exact V_pick [2, 3, 1, 0, 4] rfl (r_X11_wake_b102 v0 v1 v5 r47 v4 h e kI kE108)
set_option maxRecDepth 100000 in
def F_X11_wake_l25 (v0 : Nat) (v1 : Int32) (v2 : Int32) (v3 : Int32) (v4 : Int32) (h : Hp) : Option ((Int32 × Int32 × Int32 × Hp) ⊕ (Int32 × Int32 × Hp)) :=
  (if (32768 : Int32) ≤ v4 then some (.inr (v2, v3, h)) else gd (decide (kd h v0 = 10)) <| ob (zR h v0 5) fun q14 => ob (zR h v0 1) fun q16 => ob2 (F_X9_advance q14 q16 h) fun r19 h20 => gd (decide (kd h q14 = 8)) <| (if r19 = 0 then some (.inr (v2, v3, h20)) else gd (decide (kd h20 v0 = 10)) <| ob (zR h20 v0 5) fun q23 => ob (F_X9_isLevelNow q23 h20) fun r26 => gd (decide (kd h20 q23 = 8)) <| (if r26 = 0 then F_X11_wake_b102 v0 v1 v2 v3 v4 h20 else ob (zR h20 v0 1) fun q28 => ob (zR h20 v0 5) fun q30 => gd (decide (kd h20 q30 = 8)) <| ob (zR h20 q30 0) fun q33 => ob (F_X2_notAt q28 q33 h20) fun r36 => gd (decide (kd h20 q28 = 2)) <| (if v2 = (-1 : Int32) then F_X11_wake_b84 v0 v1 v4 r36 h20 else (if v2 ≤ r36 then F_X11_wake_b102 v0 v1 v2 v3 v4 h20 else F_X11_wake_b84 v0 v1 v4 r36 h20)))))
set_option maxHeartbeats 4000000 in
set_option maxRecDepth 100000 in
theorem r_X11_wake_l25 (v0 : Nat) (v1 : Int32) (v2 : Int32) (v3 : Int32) (v4 : Int32) (h : Hp) {x : Cx} {o : ((Int32 × Int32 × Int32 × Hp) ⊕ (Int32 × Int32 × Hp))} (e : F_X11_wake_l25 v0 v1 v2 v3 v4 h = some o) (kI : ∀ z, o = .inl z → V M_X11_wake x 2 25 [(0, .ref v0), (1, .int v1), (2, .int z.1), (3, .int z.2.1), (4, .int z.2.2.1)] [] z.2.2.2 0 0) (kE108 : ∀ z : Int32 × Int32 × Hp, o = .inr z → V M_X11_wake x 2 108 [(1, .int v1), (2, .int z.1), (3, .int z.2.1)] [] z.2.2 0 0) : V M_X11_wake x 2 25 [(0, .ref v0), (1, .int v1), (2, .int v2), (3, .int v3), (4, .int v4)] [] h 0 0 := by
  unfold F_X11_wake_l25 at e
  refine V_iload (pc := 25) (i := 4) dX11_wake_25 rfl ?_
  refine V_ldcw (pc := 27) (v := (32768 : Int32)) dX11_wake_27 (wk_X11_286) ?_
  refine V_icmp_ge (pc := 30) (tgt := 108) dX11_wake_30 (by decide) (fun c53 => ?_) (fun c53 => ?_)
  · rw [if_pos c53] at e
    cases e
    exact V_pick [1, 2, 3] rfl (kE108 (v2, v3, h) rfl)
  · rw [if_neg c53] at e
    refine V_pick [0, 1, 2, 3, 4] rfl ?_
    refine V_aload_n (pc := 33) (i := 0) dX11_wake_33 rfl rfl ?_
    obtain ⟨g13, e⟩ := gd_some e
    obtain ⟨q14, g15, e⟩ := ob_some e
    refine V_getR (pc := 34) (ci := 10) (k := 5) (b := q14) dX11_wake_34 fl_X11_47 rfl (of_decide_eq_true g13) g15 ?_
    refine V_aload_n (pc := 37) (i := 0) dX11_wake_37 rfl rfl ?_
    obtain ⟨q16, g17, e⟩ := ob_some e
    refine V_getR (pc := 38) (ci := 10) (k := 1) (b := q16) dX11_wake_38 fl_X11_19 rfl (of_decide_eq_true g13) g17 ?_
    obtain ⟨r19, h20, g18, e⟩ := ob2_some e
    obtain ⟨g21, e⟩ := gd_some e
    refine V_callV (pc := 41) (bc := 0) (bs := 0) (mc := 0) (ms := 0) (st := []) (As := [.ref q16]) (a := q14) (h' := h20) (r := some (.int r19)) dX11_wake_41 ml_X11_287 (ci := 8) rfl (of_decide_eq_true g21) rfl rfl (Nat.le_of_ble_eq_true rfl) (d' := 1) (by decide) (c_X9_advance (l := x.2.1) q14 q16 h g18) ?_
    refine V_if_eq (pc := 44) (tgt := 108) dX11_wake_44 (by decide) (fun c52 => ?_) (fun c52 => ?_)
    · rw [if_pos c52] at e
      cases e
      exact V_pick [1, 2, 3] rfl (kE108 (v2, v3, h20) rfl)
    · rw [if_neg c52] at e
      refine V_pick [0, 1, 2, 3, 4] rfl ?_
      refine V_aload_n (pc := 47) (i := 0) dX11_wake_47 rfl rfl ?_
      obtain ⟨g22, e⟩ := gd_some e
      obtain ⟨q23, g24, e⟩ := ob_some e
      refine V_getR (pc := 48) (ci := 10) (k := 5) (b := q23) dX11_wake_48 fl_X11_47 rfl (of_decide_eq_true g22) g24 ?_
      obtain ⟨r26, g25, e⟩ := ob_some e
      obtain ⟨g27, e⟩ := gd_some e
      refine V_callV (pc := 51) (bc := 0) (bs := 0) (mc := 0) (ms := 0) (st := []) (As := []) (a := q23) (h' := h20) (r := some (.int r26)) dX11_wake_51 ml_X11_291 (ci := 8) rfl (of_decide_eq_true g27) rfl rfl (Nat.le_of_ble_eq_true rfl) (d' := 0) (by decide) (c_X9_isLevelNow (l := x.2.1) q23 h20 g25) ?_
      refine V_if_eq (pc := 54) (tgt := 102) dX11_wake_54 (by decide) (fun c51 => ?_) (fun c51 => ?_)
      · rw [if_pos c51] at e
        exact V_pick [0, 1, 2, 3, 4] rfl (r_X11_wake_b102 v0 v1 v2 v3 v4 h20 e kI kE108)
      · rw [if_neg c51] at e
        refine V_pick [0, 1, 2, 3, 4] rfl ?_
        refine V_aload_n (pc := 57) (i := 0) dX11_wake_57 rfl rfl ?_
        obtain ⟨q28, g29, e⟩ := ob_some e
        refine V_getR (pc := 58) (ci := 10) (k := 1) (b := q28) dX11_wake_58 fl_X11_19 rfl (of_decide_eq_true g22) g29 ?_
        refine V_aload_n (pc := 61) (i := 0) dX11_wake_61 rfl rfl ?_
        obtain ⟨q30, g31, e⟩ := ob_some e
        refine V_getR (pc := 62) (ci := 10) (k := 5) (b := q30) dX11_wake_62 fl_X11_47 rfl (of_decide_eq_true g22) g31 ?_
        obtain ⟨g32, e⟩ := gd_some e
        obtain ⟨q33, g34, e⟩ := ob_some e
        refine V_getR (pc := 65) (ci := 8) (k := 0) (b := q33) dX11_wake_65 fl_X11_295 rfl (of_decide_eq_true g32) g34 ?_
        obtain ⟨r36, g35, e⟩ := ob_some e
        obtain ⟨g37, e⟩ := gd_some e
        refine V_callV (pc := 68) (bc := 0) (bs := 0) (mc := 0) (ms := 0) (st := []) (As := [.ref q33]) (a := q28) (h' := h20) (r := some (.int r36)) dX11_wake_68 ml_X11_296 (ci := 2) rfl (of_decide_eq_true g37) rfl rfl (Nat.le_of_ble_eq_true rfl) (d' := 0) (by decide) (c_X2_notAt (l := x.2.1) q28 q33 h20 g35) ?_
        refine V_istore (pc := 71) (i := 5) (lv' := [(5, .int r36), (0, .ref v0), (1, .int v1), (2, .int v2), (3, .int v3), (4, .int v4)]) dX11_wake_71 (by decide) rfl ?_
        refine V_iload_n (pc := 73) (i := 2) dX11_wake_73 rfl rfl ?_
        refine V_iconst (pc := 74) (v := (-1 : Int32)) dX11_wake_74 (by decide) ?_
        refine V_icmp_eq (pc := 75) (tgt := 84) dX11_wake_75 (by decide) (fun c50 => ?_) (fun c50 => ?_)
        · rw [if_pos c50] at e
          exact V_pick [1, 2, 5, 0] rfl (r_X11_wake_b84 v0 v1 v4 r36 h20 e kI kE108)
        · rw [if_neg c50] at e
          refine V_pick [1, 2, 3, 4, 5, 0] rfl ?_
          refine V_iload (pc := 78) (i := 5) dX11_wake_78 rfl ?_
          refine V_iload_n (pc := 80) (i := 2) dX11_wake_80 rfl rfl ?_
          refine V_icmp_ge (pc := 81) (tgt := 102) dX11_wake_81 (by decide) (fun c49 => ?_) (fun c49 => ?_)
          · rw [if_pos c49] at e
            exact V_pick [0, 1, 2, 3, 4] rfl (r_X11_wake_b102 v0 v1 v2 v3 v4 h20 e kI kE108)
          · rw [if_neg c49] at e
            exact V_pick [0, 1, 4, 5] rfl (r_X11_wake_b84 v0 v1 v4 r36 h20 e kI kE108)
set_option maxRecDepth 100000 in
def F_X11_wake_b117 (t0 : Int32) (h : Hp) : Option (Int32 × Hp) :=
  some (t0, h)
set_option maxHeartbeats 4000000 in
set_option maxRecDepth 100000 in
theorem r_X11_wake_b117 (t0 : Int32) (h : Hp) {x : Cx} {r : Int32} {hz : Hp} (e : F_X11_wake_b117 t0 h = some (r, hz)) (hF : Fin9 M_X11_wake x (some .int) (some (.int r)) hz) : V M_X11_wake x 2 117 [] [.int t0] h 0 0 := by
  unfold F_X11_wake_b117 at e
  cases e
  exact V_iret (pc := 117) dX11_wake_117 hF
set_option maxRecDepth 100000 in
def F_X11_wake_b108 (v1 : Int32) (v2 : Int32) (v3 : Int32) (h : Hp) : Option (Int32 × Hp) :=
  (if v1 = 0 then F_X11_wake_b117 v2 h else F_X11_wake_b117 v3 h)
set_option maxHeartbeats 4000000 in
set_option maxRecDepth 100000 in
theorem r_X11_wake_b108 (v1 : Int32) (v2 : Int32) (v3 : Int32) (h : Hp) {x : Cx} {r : Int32} {hz : Hp} (e : F_X11_wake_b108 v1 v2 v3 h = some (r, hz)) (hF : Fin9 M_X11_wake x (some .int) (some (.int r)) hz) : V M_X11_wake x 2 108 [(1, .int v1), (2, .int v2), (3, .int v3)] [] h 0 0 := by
  unfold F_X11_wake_b108 at e
  refine V_iload_n (pc := 108) (i := 1) dX11_wake_108 rfl rfl ?_
  refine V_if_eq (pc := 109) (tgt := 116) dX11_wake_109 (by decide) (fun c57 => ?_) (fun c57 => ?_)
  · rw [if_pos c57] at e
    refine V_pick [1] rfl ?_
    refine V_iload_n (pc := 116) (i := 2) dX11_wake_116 rfl rfl ?_
    exact V_pick [] rfl (r_X11_wake_b117 v2 h e hF)
  · rw [if_neg c57] at e
    refine V_pick [2] rfl ?_
    refine V_iload_n (pc := 112) (i := 3) dX11_wake_112 rfl rfl ?_
    refine V_goto (pc := 113) (tgt := 117) dX11_wake_113 (by decide) ?_
    exact V_pick [] rfl (r_X11_wake_b117 v3 h e hF)
set_option maxRecDepth 100000 in
def F_X11_wake_b0 (v0 : Nat) (v1 : Int32) (h : Hp) : Option (Int32 × Hp) :=
  gd (decide (kd h v0 = 10)) <| ob (zR h v0 5) fun q2 => ob (zR h v0 1) fun q4 => ob (zR h v0 1) fun q6 => gd (decide (kd h q6 = 2)) <| ob2 (F_X9_start q2 q4 (zI h q6 11) h) fun _ h11 => gd (decide (kd h q2 = 8)) <| ob (iter (fun z : Int32 × Int32 × Int32 × Hp => F_X11_wake_l25 v0 v1 z.1 z.2.1 z.2.2.1 z.2.2.2) FU ((-1 : Int32), (-1 : Int32), (0 : Int32), h11)) (fun z => un3 z fun w54 w55 h56 => F_X11_wake_b108 v1 w54 w55 h56)
set_option maxHeartbeats 4000000 in
set_option maxRecDepth 100000 in
theorem r_X11_wake_b0 (v0 : Nat) (v1 : Int32) (h : Hp) {x : Cx} {r : Int32} {hz : Hp} (e : F_X11_wake_b0 v0 v1 h = some (r, hz)) (hF : Fin9 M_X11_wake x (some .int) (some (.int r)) hz) : V M_X11_wake x 2 0 [(0, .ref v0), (1, .int v1)] [] h 0 0 := by
  unfold F_X11_wake_b0 at e
  refine V_iconst (pc := 0) (v := (-1 : Int32)) dX11_wake_0 (by decide) ?_
  refine V_istore_n (pc := 1) (i := 2) (lv' := [(2, .int (-1 : Int32)), (0, .ref v0), (1, .int v1)]) dX11_wake_1 rfl (by decide) rfl ?_
  refine V_iconst (pc := 2) (v := (-1 : Int32)) dX11_wake_2 (by decide) ?_
  refine V_istore_n (pc := 3) (i := 3) (lv' := [(3, .int (-1 : Int32)), (2, .int (-1 : Int32)), (0, .ref v0), (1, .int v1)]) dX11_wake_3 rfl (by decide) rfl ?_
  refine V_aload_n (pc := 4) (i := 0) dX11_wake_4 rfl rfl ?_
  obtain ⟨g1, e⟩ := gd_some e
  obtain ⟨q2, g3, e⟩ := ob_some e
  refine V_getR (pc := 5) (ci := 10) (k := 5) (b := q2) dX11_wake_5 fl_X11_47 rfl (of_decide_eq_true g1) g3 ?_
  refine V_aload_n (pc := 8) (i := 0) dX11_wake_8 rfl rfl ?_
  obtain ⟨q4, g5, e⟩ := ob_some e
  refine V_getR (pc := 9) (ci := 10) (k := 1) (b := q4) dX11_wake_9 fl_X11_19 rfl (of_decide_eq_true g1) g5 ?_
  refine V_aload_n (pc := 12) (i := 0) dX11_wake_12 rfl rfl ?_
  obtain ⟨q6, g7, e⟩ := ob_some e
  refine V_getR (pc := 13) (ci := 10) (k := 1) (b := q6) dX11_wake_13 fl_X11_19 rfl (of_decide_eq_true g1) g7 ?_
  obtain ⟨g8, e⟩ := gd_some e
  refine V_getI (pc := 16) (ci := 2) (k := 11) dX11_wake_16 fl_X11_279 rfl (of_decide_eq_true g8) ?_
  obtain ⟨r10, h11, g9, e⟩ := ob2_some e
  obtain ⟨g12, e⟩ := gd_some e
  refine V_callV (pc := 19) (bc := 0) (bs := 0) (mc := 0) (ms := 0) (st := []) (As := [.ref q4, .int (zI h q6 11)]) (a := q2) (h' := h11) (r := none) dX11_wake_19 ml_X11_282 (ci := 8) rfl (of_decide_eq_true g12) rfl rfl (Nat.le_of_ble_eq_true rfl) (d' := 1) (by decide) (c_X9_start (l := x.2.1) q2 q4 (zI h q6 11) h g9) ?_
  refine V_iconst (pc := 22) (v := (0 : Int32)) dX11_wake_22 (by decide) ?_
  refine V_istore (pc := 23) (i := 4) (lv' := [(4, .int (0 : Int32)), (3, .int (-1 : Int32)), (2, .int (-1 : Int32)), (0, .ref v0), (1, .int v1)]) dX11_wake_23 (by decide) rfl ?_
  refine V_pick [3, 4, 2, 1, 0] rfl ?_
  obtain ⟨y58, g59, e⟩ := ob_some e
  refine iter_V (P := fun z : Int32 × Int32 × Int32 × Hp => V M_X11_wake x 2 25 [(0, .ref v0), (1, .int v1), (2, .int z.1), (3, .int z.2.1), (4, .int z.2.2.1)] [] z.2.2.2 0 0) (E := fun z : Int32 × Int32 × Hp => V M_X11_wake x 2 108 [(1, .int v1), (2, .int z.1), (3, .int z.2.1)] [] z.2.2 0 0) (fun z o e9 k1 k2 => r_X11_wake_l25 v0 v1 z.1 z.2.1 z.2.2.1 z.2.2.2 e9 (fun z hz9 => k1 z hz9) (fun z hz9 => k2 _ hz9)) _ _ _ g59 ?_
  clear g59
  obtain ⟨w54, w55, h56⟩ := y58
  replace e : (F_X11_wake_b108 v1 w54 w55 h56) = some (r, hz) := e
  show V M_X11_wake x 2 108 [(1, .int v1), (2, .int w54), (3, .int w55)] [] h56 0 0
  exact V_pick [0, 1, 2] rfl (r_X11_wake_b108 v1 w54 w55 h56 e hF)
def F_X11_wake (v0 : Nat) (v1 : Int32) (h : Hp) : Option (Int32 × Hp) := F_X11_wake_b0 v0 v1 h
theorem c_X11_wake {l : Launch} (v0 : Nat) (v1 : Int32) (h : Hp) {r : Int32} {hz : Hp} (e : F_X11_wake v0 v1 h = some (r, hz)) : Ct l yX11_wake M_X11_wake (some .int) 2 [.ref v0, .int v1] h 0 0 (some (.int r)) hz :=
  Ct_of rfl rfl (fun q => by cases q) (Nat.le_of_ble_eq_true rfl) (fun x _ hF => V_pick [0, 1] rfl (r_X11_wake_b0 v0 v1 h e hF))
theorem dX11_bucket_0 : decode cX11_bucket 0 = .ok (.aload_n 0, 1) := by decide +kernel
theorem dX11_bucket_1 : decode cX11_bucket 1 = .ok (.getfield 19, 3) := by decide +kernel
theorem dX11_bucket_4 : decode cX11_bucket 4 = .ok (.aload_n 0, 1) := by decide +kernel
theorem dX11_bucket_5 : decode cX11_bucket 5 = .ok (.getfield 19, 3) := by decide +kernel
theorem dX11_bucket_8 : decode cX11_bucket 8 = .ok (.getfield 149, 3) := by decide +kernel
theorem dX11_bucket_11 : decode cX11_bucket 11 = .ok (.invokevirtual 203, 3) := by decide +kernel
theorem dX11_bucket_14 : decode cX11_bucket 14 = .ok (.istore_n 2, 1) := by decide +kernel
theorem dX11_bucket_15 : decode cX11_bucket 15 = .ok (.aload_n 0, 1) := by decide +kernel
theorem dX11_bucket_16 : decode cX11_bucket 16 = .ok (.getfield 19, 3) := by decide +kernel
theorem dX11_bucket_19 : decode cX11_bucket 19 = .ok (.aload_n 0, 1) := by decide +kernel
theorem dX11_bucket_20 : decode cX11_bucket 20 = .ok (.getfield 19, 3) := by decide +kernel
theorem dX11_bucket_23 : decode cX11_bucket 23 = .ok (.getfield 153, 3) := by decide +kernel
theorem dX11_bucket_26 : decode cX11_bucket 26 = .ok (.invokevirtual 203, 3) := by decide +kernel
theorem dX11_bucket_29 : decode cX11_bucket 29 = .ok (.istore_n 3, 1) := by decide +kernel
theorem dX11_bucket_30 : decode cX11_bucket 30 = .ok (.aload_n 0, 1) := by decide +kernel
theorem dX11_bucket_31 : decode cX11_bucket 31 = .ok (.getfield 19, 3) := by decide +kernel
theorem dX11_bucket_34 : decode cX11_bucket 34 = .ok (.iload_n 2, 1) := by decide +kernel
theorem dX11_bucket_35 : decode cX11_bucket 35 = .ok (.iload_n 3, 1) := by decide +kernel
theorem dX11_bucket_36 : decode cX11_bucket 36 = .ok (.aload_n 0, 1) := by decide +kernel
theorem dX11_bucket_37 : decode cX11_bucket 37 = .ok (.getfield 19, 3) := by decide +kernel
theorem dX11_bucket_40 : decode cX11_bucket 40 = .ok (.getfield 173, 3) := by decide +kernel
theorem dX11_bucket_43 : decode cX11_bucket 43 = .ok (.invokevirtual 213, 3) := by decide +kernel
theorem dX11_bucket_46 : decode cX11_bucket 46 = .ok (.ifCond .eq 13, 3) := by decide +kernel
theorem dX11_bucket_49 : decode cX11_bucket 49 = .ok (.iload_n 1, 1) := by decide +kernel
theorem dX11_bucket_50 : decode cX11_bucket 50 = .ok (.ifCond .eq 7, 3) := by decide +kernel
theorem dX11_bucket_53 : decode cX11_bucket 53 = .ok (.iconst (-1), 1) := by decide +kernel
theorem dX11_bucket_54 : decode cX11_bucket 54 = .ok (.goto 4, 3) := by decide +kernel
theorem dX11_bucket_57 : decode cX11_bucket 57 = .ok (.iconst 0, 1) := by decide +kernel
theorem dX11_bucket_58 : decode cX11_bucket 58 = .ok (.ireturn, 1) := by decide +kernel
theorem dX11_bucket_59 : decode cX11_bucket 59 = .ok (.iconst 1, 1) := by decide +kernel
theorem dX11_bucket_60 : decode cX11_bucket 60 = .ok (.istore 4, 2) := by decide +kernel
theorem dX11_bucket_62 : decode cX11_bucket 62 = .ok (.iload 4, 2) := by decide +kernel
theorem dX11_bucket_64 : decode cX11_bucket 64 = .ok (.sipush 300, 3) := by decide +kernel
theorem dX11_bucket_67 : decode cX11_bucket 67 = .ok (.if_icmp .gt 89, 3) := by decide +kernel
theorem dX11_bucket_70 : decode cX11_bucket 70 = .ok (.iconst 0, 1) := by decide +kernel
theorem dX11_bucket_71 : decode cX11_bucket 71 = .ok (.istore 5, 2) := by decide +kernel
theorem dX11_bucket_73 : decode cX11_bucket 73 = .ok (.iload 5, 2) := by decide +kernel
theorem dX11_bucket_75 : decode cX11_bucket 75 = .ok (.aload_n 0, 1) := by decide +kernel
theorem dX11_bucket_76 : decode cX11_bucket 76 = .ok (.getfield 19, 3) := by decide +kernel
theorem dX11_bucket_79 : decode cX11_bucket 79 = .ok (.getfield 299, 3) := by decide +kernel
theorem dX11_bucket_82 : decode cX11_bucket 82 = .ok (.if_icmp .ge 68, 3) := by decide +kernel
theorem dX11_bucket_85 : decode cX11_bucket 85 = .ok (.aload_n 0, 1) := by decide +kernel
theorem dX11_bucket_86 : decode cX11_bucket 86 = .ok (.getfield 19, 3) := by decide +kernel
theorem dX11_bucket_89 : decode cX11_bucket 89 = .ok (.iload_n 2, 1) := by decide +kernel
theorem dX11_bucket_90 : decode cX11_bucket 90 = .ok (.iload 4, 2) := by decide +kernel
theorem dX11_bucket_92 : decode cX11_bucket 92 = .ok (.aload_n 0, 1) := by decide +kernel
theorem dX11_bucket_93 : decode cX11_bucket 93 = .ok (.getfield 19, 3) := by decide +kernel
theorem dX11_bucket_96 : decode cX11_bucket 96 = .ok (.getfield 149, 3) := by decide +kernel
theorem dX11_bucket_99 : decode cX11_bucket 99 = .ok (.iload 5, 2) := by decide +kernel
theorem dX11_bucket_101 : decode cX11_bucket 101 = .ok (.iaload, 1) := by decide +kernel
theorem dX11_bucket_102 : decode cX11_bucket 102 = .ok (.imul, 1) := by decide +kernel
theorem dX11_bucket_103 : decode cX11_bucket 103 = .ok (.iadd, 1) := by decide +kernel
theorem dX11_bucket_104 : decode cX11_bucket 104 = .ok (.iload_n 3, 1) := by decide +kernel
theorem dX11_bucket_105 : decode cX11_bucket 105 = .ok (.iload 4, 2) := by decide +kernel
theorem dX11_bucket_107 : decode cX11_bucket 107 = .ok (.aload_n 0, 1) := by decide +kernel
theorem dX11_bucket_108 : decode cX11_bucket 108 = .ok (.getfield 19, 3) := by decide +kernel
theorem dX11_bucket_111 : decode cX11_bucket 111 = .ok (.getfield 153, 3) := by decide +kernel
theorem dX11_bucket_114 : decode cX11_bucket 114 = .ok (.iload 5, 2) := by decide +kernel
theorem dX11_bucket_116 : decode cX11_bucket 116 = .ok (.iaload, 1) := by decide +kernel
theorem dX11_bucket_117 : decode cX11_bucket 117 = .ok (.imul, 1) := by decide +kernel
theorem dX11_bucket_118 : decode cX11_bucket 118 = .ok (.iadd, 1) := by decide +kernel
theorem dX11_bucket_119 : decode cX11_bucket 119 = .ok (.aload_n 0, 1) := by decide +kernel
theorem dX11_bucket_120 : decode cX11_bucket 120 = .ok (.getfield 19, 3) := by decide +kernel
theorem dX11_bucket_123 : decode cX11_bucket 123 = .ok (.getfield 173, 3) := by decide +kernel
theorem dX11_bucket_126 : decode cX11_bucket 126 = .ok (.invokevirtual 213, 3) := by decide +kernel
theorem dX11_bucket_129 : decode cX11_bucket 129 = .ok (.ifCond .eq 15, 3) := by decide +kernel
theorem dX11_bucket_132 : decode cX11_bucket 132 = .ok (.iload_n 1, 1) := by decide +kernel
theorem dX11_bucket_133 : decode cX11_bucket 133 = .ok (.ifCond .eq 8, 3) := by decide +kernel
theorem dX11_bucket_136 : decode cX11_bucket 136 = .ok (.iload 5, 2) := by decide +kernel
theorem dX11_bucket_138 : decode cX11_bucket 138 = .ok (.goto 5, 3) := by decide +kernel
theorem dX11_bucket_141 : decode cX11_bucket 141 = .ok (.iload 4, 2) := by decide +kernel
theorem dX11_bucket_143 : decode cX11_bucket 143 = .ok (.ireturn, 1) := by decide +kernel
theorem dX11_bucket_144 : decode cX11_bucket 144 = .ok (.iinc 5 1, 3) := by decide +kernel
theorem dX11_bucket_147 : decode cX11_bucket 147 = .ok (.goto (-74), 3) := by decide +kernel
theorem dX11_bucket_150 : decode cX11_bucket 150 = .ok (.iinc 4 1, 3) := by decide +kernel
theorem dX11_bucket_153 : decode cX11_bucket 153 = .ok (.goto (-91), 3) := by decide +kernel
theorem dX11_bucket_156 : decode cX11_bucket 156 = .ok (.iconst (-1), 1) := by decide +kernel
theorem dX11_bucket_157 : decode cX11_bucket 157 = .ok (.ireturn, 1) := by decide +kernel
set_option maxRecDepth 100000 in
def F_X11_bucket_l73 (v0 : Nat) (v1 : Int32) (v2 : Int32) (v3 : Int32) (v4 : Int32) (v5 : Int32) (h : Hp) : Option (Int32 ⊕ (Unit ⊕ Int32)) :=
  gd (decide (kd h v0 = 10)) <| ob (zR h v0 1) fun q33 => gd (decide (kd h q33 = 2)) <| (if (zI h q33 0) ≤ v5 then some (.inr (.inl ())) else ob (zR h v0 1) fun q36 => ob (zR h v0 1) fun q38 => gd (decide (kd h q38 = 2)) <| ob (zR h q38 1) fun q41 => gd (decide (kd h q41 = 13)) <| gd (ix v5 (zl h q41)) <| ob (zR h v0 1) fun q45 => gd (decide (kd h q45 = 2)) <| ob (zR h q45 2) fun q48 => gd (decide (kd h q48 = 13)) <| gd (ix v5 (zl h q48)) <| ob (zR h v0 1) fun q52 => gd (decide (kd h q52 = 2)) <| ob (zR h q52 9) fun q55 => ob (F_X2_isLevelAt q36 (v2 + (v4 * (zI h q41 (v5).toNatClampNeg))) (v3 + (v4 * (zI h q48 (v5).toNatClampNeg))) q55 h) fun r58 => gd (decide (kd h q36 = 2)) <| (if r58 = 0 then some (.inl (v5 + (1 : Int32))) else some (.inr (.inr v5))))
set_option maxHeartbeats 4000000 in
set_option maxRecDepth 100000 in
theorem r_X11_bucket_l73 (v0 : Nat) (v1 : Int32) (v2 : Int32) (v3 : Int32) (v4 : Int32) (v5 : Int32) (h : Hp) {x : Cx} {o : (Int32 ⊕ (Unit ⊕ Int32))} (e : F_X11_bucket_l73 v0 v1 v2 v3 v4 v5 h = some o) (kI : ∀ z, o = .inl z → V M_X11_bucket x 2 73 [(0, .ref v0), (1, .int v1), (2, .int v2), (3, .int v3), (4, .int v4), (5, .int z)] [] h 0 0) (kE150 : ∀ z : Unit, o = .inr (.inl z) → V M_X11_bucket x 2 150 [(0, .ref v0), (1, .int v1), (2, .int v2), (3, .int v3), (4, .int v4)] [] h 0 0) (kE132 : ∀ z : Int32, o = .inr (.inr z) → V M_X11_bucket x 2 132 [(1, .int v1), (4, .int v4), (5, .int z)] [] h 0 0) : V M_X11_bucket x 2 73 [(0, .ref v0), (1, .int v1), (2, .int v2), (3, .int v3), (4, .int v4), (5, .int v5)] [] h 0 0 := by
  unfold F_X11_bucket_l73 at e
  refine V_iload (pc := 73) (i := 5) dX11_bucket_73 rfl ?_
  refine V_aload_n (pc := 75) (i := 0) dX11_bucket_75 rfl rfl ?_
  obtain ⟨g32, e⟩ := gd_some e
  obtain ⟨q33, g34, e⟩ := ob_some e
  refine V_getR (pc := 76) (ci := 10) (k := 1) (b := q33) dX11_bucket_76 fl_X11_19 rfl (of_decide_eq_true g32) g34 ?_
  obtain ⟨g35, e⟩ := gd_some e
  refine V_getI (pc := 79) (ci := 2) (k := 0) dX11_bucket_79 fl_X11_299 rfl (of_decide_eq_true g35) ?_
  refine V_icmp_ge (pc := 82) (tgt := 150) dX11_bucket_82 (by decide) (fun c61 => ?_) (fun c61 => ?_)
  · rw [if_pos c61] at e
    cases e
    exact V_pick [0, 1, 2, 3, 4] rfl (kE150 () rfl)
  · rw [if_neg c61] at e
    refine V_pick [0, 1, 2, 3, 4, 5] rfl ?_
    refine V_aload_n (pc := 85) (i := 0) dX11_bucket_85 rfl rfl ?_
    obtain ⟨q36, g37, e⟩ := ob_some e
    refine V_getR (pc := 86) (ci := 10) (k := 1) (b := q36) dX11_bucket_86 fl_X11_19 rfl (of_decide_eq_true g32) g37 ?_
    refine V_iload_n (pc := 89) (i := 2) dX11_bucket_89 rfl rfl ?_
    refine V_iload (pc := 90) (i := 4) dX11_bucket_90 rfl ?_
    refine V_aload_n (pc := 92) (i := 0) dX11_bucket_92 rfl rfl ?_
    obtain ⟨q38, g39, e⟩ := ob_some e
    refine V_getR (pc := 93) (ci := 10) (k := 1) (b := q38) dX11_bucket_93 fl_X11_19 rfl (of_decide_eq_true g32) g39 ?_
    obtain ⟨g40, e⟩ := gd_some e
    obtain ⟨q41, g42, e⟩ := ob_some e
    refine V_getR (pc := 96) (ci := 2) (k := 1) (b := q41) dX11_bucket_96 fl_X11_149 rfl (of_decide_eq_true g40) g42 ?_
    refine V_iload (pc := 99) (i := 5) dX11_bucket_99 rfl ?_
    obtain ⟨g43, e⟩ := gd_some e
    obtain ⟨g44, e⟩ := gd_some e
    refine V_iald (pc := 101) dX11_bucket_101 (of_decide_eq_true g43) (ix_in g44) ?_
    refine V_imul (pc := 102) dX11_bucket_102 ?_
    refine V_iadd (pc := 103) dX11_bucket_103 ?_
    refine V_iload_n (pc := 104) (i := 3) dX11_bucket_104 rfl rfl ?_
    refine V_iload (pc := 105) (i := 4) dX11_bucket_105 rfl ?_
    refine V_aload_n (pc := 107) (i := 0) dX11_bucket_107 rfl rfl ?_
    obtain ⟨q45, g46, e⟩ := ob_some e
    refine V_getR (pc := 108) (ci := 10) (k := 1) (b := q45) dX11_bucket_108 fl_X11_19 rfl (of_decide_eq_true g32) g46 ?_
    obtain ⟨g47, e⟩ := gd_some e
    obtain ⟨q48, g49, e⟩ := ob_some e
    refine V_getR (pc := 111) (ci := 2) (k := 2) (b := q48) dX11_bucket_111 fl_X11_153 rfl (of_decide_eq_true g47) g49 ?_
    refine V_iload (pc := 114) (i := 5) dX11_bucket_114 rfl ?_
    obtain ⟨g50, e⟩ := gd_some e
    obtain ⟨g51, e⟩ := gd_some e
    refine V_iald (pc := 116) dX11_bucket_116 (of_decide_eq_true g50) (ix_in g51) ?_
    refine V_imul (pc := 117) dX11_bucket_117 ?_
    refine V_iadd (pc := 118) dX11_bucket_118 ?_
    refine V_aload_n (pc := 119) (i := 0) dX11_bucket_119 rfl rfl ?_
    obtain ⟨q52, g53, e⟩ := ob_some e
    refine V_getR (pc := 120) (ci := 10) (k := 1) (b := q52) dX11_bucket_120 fl_X11_19 rfl (of_decide_eq_true g32) g53 ?_
    obtain ⟨g54, e⟩ := gd_some e
    obtain ⟨q55, g56, e⟩ := ob_some e
    refine V_getR (pc := 123) (ci := 2) (k := 9) (b := q55) dX11_bucket_123 fl_X11_173 rfl (of_decide_eq_true g54) g56 ?_
    obtain ⟨r58, g57, e⟩ := ob_some e
    obtain ⟨g59, e⟩ := gd_some e
    refine V_callV (pc := 126) (bc := 0) (bs := 0) (mc := 0) (ms := 0) (st := []) (As := [.int (v2 + (v4 * (zI h q41 (v5).toNatClampNeg))), .int (v3 + (v4 * (zI h q48 (v5).toNatClampNeg))), .ref q55]) (a := q36) (h' := h) (r := some (.int r58)) dX11_bucket_126 ml_X11_213 (ci := 2) rfl (of_decide_eq_true g59) rfl rfl (Nat.le_of_ble_eq_true rfl) (d' := 1) (by decide) (c_X2_isLevelAt (l := x.2.1) q36 (v2 + (v4 * (zI h q41 (v5).toNatClampNeg))) (v3 + (v4 * (zI h q48 (v5).toNatClampNeg))) q55 h g57) ?_
    refine V_if_eq (pc := 129) (tgt := 144) dX11_bucket_129 (by decide) (fun c60 => ?_) (fun c60 => ?_)
    · rw [if_pos c60] at e
      refine V_pick [0, 1, 2, 3, 4, 5] rfl ?_
      refine V_iinc (pc := 144) (i := 5) (u := v5 + (1 : Int32)) (lv' := [(5, .int (v5 + (1 : Int32))), (0, .ref v0), (1, .int v1), (2, .int v2), (3, .int v3), (4, .int v4)]) dX11_bucket_144 rfl rfl (by decide) rfl ?_
      refine V_goto (pc := 147) (tgt := 73) dX11_bucket_147 (by decide) ?_
      cases e
      exact V_pick [1, 2, 3, 4, 5, 0] rfl (kI (v5 + (1 : Int32)) rfl)
    · rw [if_neg c60] at e
      cases e
      exact V_pick [1, 4, 5] rfl (kE132 v5 rfl)
set_option maxRecDepth 100000 in
def F_X11_bucket_l62 (v0 : Nat) (v1 : Int32) (v2 : Int32) (v3 : Int32) (v4 : Int32) (h : Hp) : Option (Int32 ⊕ (Unit ⊕ (Int32 × Int32))) :=
  (if (300 : Int32) < v4 then some (.inr (.inl ())) else ob (iter (fun z : Int32 => F_X11_bucket_l73 v0 v1 v2 v3 v4 z h) FU (0 : Int32)) (fun z => sm z (fun _ => some (.inl (v4 + (1 : Int32)))) (fun w62 => some (.inr (.inr (v4, w62))))))
set_option maxHeartbeats 4000000 in
set_option maxRecDepth 100000 in
theorem r_X11_bucket_l62 (v0 : Nat) (v1 : Int32) (v2 : Int32) (v3 : Int32) (v4 : Int32) (h : Hp) {x : Cx} {o : (Int32 ⊕ (Unit ⊕ (Int32 × Int32)))} (e : F_X11_bucket_l62 v0 v1 v2 v3 v4 h = some o) (kI : ∀ z, o = .inl z → V M_X11_bucket x 2 62 [(0, .ref v0), (1, .int v1), (2, .int v2), (3, .int v3), (4, .int z)] [] h 0 0) (kE156 : ∀ z : Unit, o = .inr (.inl z) → V M_X11_bucket x 2 156 [] [] h 0 0) (kE132 : ∀ z : Int32 × Int32, o = .inr (.inr z) → V M_X11_bucket x 2 132 [(1, .int v1), (4, .int z.1), (5, .int z.2)] [] h 0 0) : V M_X11_bucket x 2 62 [(0, .ref v0), (1, .int v1), (2, .int v2), (3, .int v3), (4, .int v4)] [] h 0 0 := by
  unfold F_X11_bucket_l62 at e
  refine V_iload (pc := 62) (i := 4) dX11_bucket_62 rfl ?_
  refine V_sipush (pc := 64) (v := (300 : Int32)) dX11_bucket_64 (by decide) ?_
  refine V_icmp_gt (pc := 67) (tgt := 156) dX11_bucket_67 (by decide) (fun c67 => ?_) (fun c67 => ?_)
  · rw [if_pos c67] at e
    cases e
    exact V_pick [] rfl (kE156 () rfl)
  · rw [if_neg c67] at e
    refine V_pick [0, 1, 2, 3, 4] rfl ?_
    refine V_iconst (pc := 70) (v := (0 : Int32)) dX11_bucket_70 (by decide) ?_
    refine V_istore (pc := 71) (i := 5) (lv' := [(5, .int (0 : Int32)), (0, .ref v0), (1, .int v1), (2, .int v2), (3, .int v3), (4, .int v4)]) dX11_bucket_71 (by decide) rfl ?_
    refine V_pick [1, 2, 3, 4, 5, 0] rfl ?_
    obtain ⟨y63, g64, e⟩ := ob_some e
    refine iter_V (P := fun z : Int32 => V M_X11_bucket x 2 73 [(0, .ref v0), (1, .int v1), (2, .int v2), (3, .int v3), (4, .int v4), (5, .int z)] [] h 0 0) (E := fun z => Sum.elim (fun z : Unit => V M_X11_bucket x 2 150 [(0, .ref v0), (1, .int v1), (2, .int v2), (3, .int v3), (4, .int v4)] [] h 0 0) (fun z : Int32 => V M_X11_bucket x 2 132 [(1, .int v1), (4, .int v4), (5, .int z)] [] h 0 0) z) (fun z o e9 k1 k2 => r_X11_bucket_l73 v0 v1 v2 v3 v4 z h e9 (fun z hz9 => k1 z hz9) (fun z hz9 => k2 _ hz9) (fun z hz9 => k2 _ hz9)) _ _ _ g64 ?_
    clear g64
    rcases y63 with y65 | y66
    · replace e : (some (.inl (v4 + (1 : Int32)))) = some o := e
      show V M_X11_bucket x 2 150 [(0, .ref v0), (1, .int v1), (2, .int v2), (3, .int v3), (4, .int v4)] [] h 0 0
      refine V_iinc (pc := 150) (i := 4) (u := v4 + (1 : Int32)) (lv' := [(4, .int (v4 + (1 : Int32))), (0, .ref v0), (1, .int v1), (2, .int v2), (3, .int v3)]) dX11_bucket_150 rfl rfl (by decide) rfl ?_
      refine V_goto (pc := 153) (tgt := 62) dX11_bucket_153 (by decide) ?_
      cases e
      exact V_pick [1, 2, 3, 4, 0] rfl (kI (v4 + (1 : Int32)) rfl)
    · obtain ⟨w62, rfl⟩ : ∃ q, q = y66 := ⟨_, rfl⟩
      replace e : (some (.inr (.inr (v4, w62)))) = some o := e
      show V M_X11_bucket x 2 132 [(1, .int v1), (4, .int v4), (5, .int w62)] [] h 0 0
      cases e
      exact V_pick [0, 1, 2] rfl (kE132 (v4, w62) rfl)
set_option maxRecDepth 100000 in
def F_X11_bucket_b143 (t0 : Int32) (h : Hp) : Option Int32 :=
  some t0
set_option maxHeartbeats 4000000 in
set_option maxRecDepth 100000 in
theorem r_X11_bucket_b143 (t0 : Int32) (h : Hp) {x : Cx} {r : Int32} (e : F_X11_bucket_b143 t0 h = some r) (hF : Fin9 M_X11_bucket x (some .int) (some (.int r)) h) : V M_X11_bucket x 2 143 [] [.int t0] h 0 0 := by
  unfold F_X11_bucket_b143 at e
  cases e
  exact V_iret (pc := 143) dX11_bucket_143 hF
set_option maxRecDepth 100000 in
def F_X11_bucket_b58 (t0 : Int32) (h : Hp) : Option Int32 :=
  some t0
set_option maxHeartbeats 4000000 in
set_option maxRecDepth 100000 in
theorem r_X11_bucket_b58 (t0 : Int32) (h : Hp) {x : Cx} {r : Int32} (e : F_X11_bucket_b58 t0 h = some r) (hF : Fin9 M_X11_bucket x (some .int) (some (.int r)) h) : V M_X11_bucket x 2 58 [] [.int t0] h 0 0 := by
  unfold F_X11_bucket_b58 at e
  cases e
  exact V_iret (pc := 58) dX11_bucket_58 hF
set_option maxRecDepth 100000 in
def F_X11_bucket_b0 (v0 : Nat) (v1 : Int32) (h : Hp) : Option Int32 :=
  gd (decide (kd h v0 = 10)) <| ob (zR h v0 1) fun q2 => ob (zR h v0 1) fun q4 => gd (decide (kd h q4 = 2)) <| ob (zR h q4 1) fun q7 => ob (F_X2_net q2 q7 h) fun r10 => gd (decide (kd h q2 = 2)) <| ob (zR h v0 1) fun q12 => ob (zR h v0 1) fun q14 => gd (decide (kd h q14 = 2)) <| ob (zR h q14 2) fun q17 => ob (F_X2_net q12 q17 h) fun r20 => gd (decide (kd h q12 = 2)) <| ob (zR h v0 1) fun q22 => ob (zR h v0 1) fun q24 => gd (decide (kd h q24 = 2)) <| ob (zR h q24 9) fun q27 => ob (F_X2_isLevelAt q22 r10 r20 q27 h) fun r30 => gd (decide (kd h q22 = 2)) <| (if r30 = 0 then ob (iter (fun z : Int32 => F_X11_bucket_l62 v0 v1 r10 r20 z h) FU (1 : Int32)) (fun z => sm z (fun _ => some (-1 : Int32)) (fun z => un2 z fun w68 w69 => (if v1 = 0 then F_X11_bucket_b143 w68 h else F_X11_bucket_b143 w69 h))) else (if v1 = 0 then F_X11_bucket_b58 (0 : Int32) h else F_X11_bucket_b58 (-1 : Int32) h))
set_option maxHeartbeats 4000000 in
set_option maxRecDepth 100000 in
theorem r_X11_bucket_b0 (v0 : Nat) (v1 : Int32) (h : Hp) {x : Cx} {r : Int32} (e : F_X11_bucket_b0 v0 v1 h = some r) (hF : Fin9 M_X11_bucket x (some .int) (some (.int r)) h) : V M_X11_bucket x 2 0 [(0, .ref v0), (1, .int v1)] [] h 0 0 := by
  unfold F_X11_bucket_b0 at e
  refine V_aload_n (pc := 0) (i := 0) dX11_bucket_0 rfl rfl ?_
  obtain ⟨g1, e⟩ := gd_some e
  obtain ⟨q2, g3, e⟩ := ob_some e
  refine V_getR (pc := 1) (ci := 10) (k := 1) (b := q2) dX11_bucket_1 fl_X11_19 rfl (of_decide_eq_true g1) g3 ?_
  refine V_aload_n (pc := 4) (i := 0) dX11_bucket_4 rfl rfl ?_
  obtain ⟨q4, g5, e⟩ := ob_some e
  refine V_getR (pc := 5) (ci := 10) (k := 1) (b := q4) dX11_bucket_5 fl_X11_19 rfl (of_decide_eq_true g1) g5 ?_
  obtain ⟨g6, e⟩ := gd_some e
  obtain ⟨q7, g8, e⟩ := ob_some e
  refine V_getR (pc := 8) (ci := 2) (k := 1) (b := q7) dX11_bucket_8 fl_X11_149 rfl (of_decide_eq_true g6) g8 ?_
  obtain ⟨r10, g9, e⟩ := ob_some e
  obtain ⟨g11, e⟩ := gd_some e
  refine V_callV (pc := 11) (bc := 0) (bs := 0) (mc := 0) (ms := 0) (st := []) (As := [.ref q7]) (a := q2) (h' := h) (r := some (.int r10)) dX11_bucket_11 ml_X11_203 (ci := 2) rfl (of_decide_eq_true g11) rfl rfl (Nat.le_of_ble_eq_true rfl) (d' := 1) (by decide) (c_X2_net (l := x.2.1) q2 q7 h g9) ?_
  refine V_istore_n (pc := 14) (i := 2) (lv' := [(2, .int r10), (0, .ref v0), (1, .int v1)]) dX11_bucket_14 rfl (by decide) rfl ?_
  refine V_aload_n (pc := 15) (i := 0) dX11_bucket_15 rfl rfl ?_
  obtain ⟨q12, g13, e⟩ := ob_some e
  refine V_getR (pc := 16) (ci := 10) (k := 1) (b := q12) dX11_bucket_16 fl_X11_19 rfl (of_decide_eq_true g1) g13 ?_
  refine V_aload_n (pc := 19) (i := 0) dX11_bucket_19 rfl rfl ?_
  obtain ⟨q14, g15, e⟩ := ob_some e
  refine V_getR (pc := 20) (ci := 10) (k := 1) (b := q14) dX11_bucket_20 fl_X11_19 rfl (of_decide_eq_true g1) g15 ?_
  obtain ⟨g16, e⟩ := gd_some e
  obtain ⟨q17, g18, e⟩ := ob_some e
  refine V_getR (pc := 23) (ci := 2) (k := 2) (b := q17) dX11_bucket_23 fl_X11_153 rfl (of_decide_eq_true g16) g18 ?_
  obtain ⟨r20, g19, e⟩ := ob_some e
  obtain ⟨g21, e⟩ := gd_some e
  refine V_callV (pc := 26) (bc := 0) (bs := 0) (mc := 0) (ms := 0) (st := []) (As := [.ref q17]) (a := q12) (h' := h) (r := some (.int r20)) dX11_bucket_26 ml_X11_203 (ci := 2) rfl (of_decide_eq_true g21) rfl rfl (Nat.le_of_ble_eq_true rfl) (d' := 1) (by decide) (c_X2_net (l := x.2.1) q12 q17 h g19) ?_
  refine V_istore_n (pc := 29) (i := 3) (lv' := [(3, .int r20), (2, .int r10), (0, .ref v0), (1, .int v1)]) dX11_bucket_29 rfl (by decide) rfl ?_
  refine V_aload_n (pc := 30) (i := 0) dX11_bucket_30 rfl rfl ?_
  obtain ⟨q22, g23, e⟩ := ob_some e
  refine V_getR (pc := 31) (ci := 10) (k := 1) (b := q22) dX11_bucket_31 fl_X11_19 rfl (of_decide_eq_true g1) g23 ?_
  refine V_iload_n (pc := 34) (i := 2) dX11_bucket_34 rfl rfl ?_
  refine V_iload_n (pc := 35) (i := 3) dX11_bucket_35 rfl rfl ?_
  refine V_aload_n (pc := 36) (i := 0) dX11_bucket_36 rfl rfl ?_
  obtain ⟨q24, g25, e⟩ := ob_some e
  refine V_getR (pc := 37) (ci := 10) (k := 1) (b := q24) dX11_bucket_37 fl_X11_19 rfl (of_decide_eq_true g1) g25 ?_
  obtain ⟨g26, e⟩ := gd_some e
  obtain ⟨q27, g28, e⟩ := ob_some e
  refine V_getR (pc := 40) (ci := 2) (k := 9) (b := q27) dX11_bucket_40 fl_X11_173 rfl (of_decide_eq_true g26) g28 ?_
  obtain ⟨r30, g29, e⟩ := ob_some e
  obtain ⟨g31, e⟩ := gd_some e
  refine V_callV (pc := 43) (bc := 0) (bs := 0) (mc := 0) (ms := 0) (st := []) (As := [.int r10, .int r20, .ref q27]) (a := q22) (h' := h) (r := some (.int r30)) dX11_bucket_43 ml_X11_213 (ci := 2) rfl (of_decide_eq_true g31) rfl rfl (Nat.le_of_ble_eq_true rfl) (d' := 1) (by decide) (c_X2_isLevelAt (l := x.2.1) q22 r10 r20 q27 h g29) ?_
  refine V_if_eq (pc := 46) (tgt := 59) dX11_bucket_46 (by decide) (fun c76 => ?_) (fun c76 => ?_)
  · rw [if_pos c76] at e
    refine V_pick [2, 3, 1, 0] rfl ?_
    refine V_iconst (pc := 59) (v := (1 : Int32)) dX11_bucket_59 (by decide) ?_
    refine V_istore (pc := 60) (i := 4) (lv' := [(4, .int (1 : Int32)), (0, .ref v0), (1, .int v1), (2, .int r10), (3, .int r20)]) dX11_bucket_60 (by decide) rfl ?_
    refine V_pick [1, 2, 3, 4, 0] rfl ?_
    obtain ⟨y71, g72, e⟩ := ob_some e
    refine iter_V (P := fun z : Int32 => V M_X11_bucket x 2 62 [(0, .ref v0), (1, .int v1), (2, .int r10), (3, .int r20), (4, .int z)] [] h 0 0) (E := fun z => Sum.elim (fun z : Unit => V M_X11_bucket x 2 156 [] [] h 0 0) (fun z : Int32 × Int32 => V M_X11_bucket x 2 132 [(1, .int v1), (4, .int z.1), (5, .int z.2)] [] h 0 0) z) (fun z o e9 k1 k2 => r_X11_bucket_l62 v0 v1 r10 r20 z h e9 (fun z hz9 => k1 z hz9) (fun z hz9 => k2 _ hz9) (fun z hz9 => k2 _ hz9)) _ _ _ g72 ?_
    clear g72
    rcases y71 with y73 | y74
    · replace e : (some (-1 : Int32)) = some r := e
      show V M_X11_bucket x 2 156 [] [] h 0 0
      refine V_iconst (pc := 156) (v := (-1 : Int32)) dX11_bucket_156 (by decide) ?_
      cases e
      exact V_iret (pc := 157) dX11_bucket_157 hF
    · obtain ⟨w68, w69⟩ := y74
      replace e : ((if v1 = 0 then F_X11_bucket_b143 w68 h else F_X11_bucket_b143 w69 h)) = some r := e
      show V M_X11_bucket x 2 132 [(1, .int v1), (4, .int w68), (5, .int w69)] [] h 0 0
      refine V_iload_n (pc := 132) (i := 1) dX11_bucket_132 rfl rfl ?_
      refine V_if_eq (pc := 133) (tgt := 141) dX11_bucket_133 (by decide) (fun c70 => ?_) (fun c70 => ?_)
      · rw [if_pos c70] at e
        refine V_pick [1] rfl ?_
        refine V_iload (pc := 141) (i := 4) dX11_bucket_141 rfl ?_
        exact V_pick [] rfl (r_X11_bucket_b143 w68 h e hF)
      · rw [if_neg c70] at e
        refine V_pick [2] rfl ?_
        refine V_iload (pc := 136) (i := 5) dX11_bucket_136 rfl ?_
        refine V_goto (pc := 138) (tgt := 143) dX11_bucket_138 (by decide) ?_
        exact V_pick [] rfl (r_X11_bucket_b143 w69 h e hF)
  · rw [if_neg c76] at e
    refine V_pick [3] rfl ?_
    refine V_iload_n (pc := 49) (i := 1) dX11_bucket_49 rfl rfl ?_
    refine V_if_eq (pc := 50) (tgt := 57) dX11_bucket_50 (by decide) (fun c75 => ?_) (fun c75 => ?_)
    · rw [if_pos c75] at e
      refine V_pick [] rfl ?_
      refine V_iconst (pc := 57) (v := (0 : Int32)) dX11_bucket_57 (by decide) ?_
      exact V_pick [] rfl (r_X11_bucket_b58 (0 : Int32) h e hF)
    · rw [if_neg c75] at e
      refine V_pick [] rfl ?_
      refine V_iconst (pc := 53) (v := (-1 : Int32)) dX11_bucket_53 (by decide) ?_
      refine V_goto (pc := 54) (tgt := 58) dX11_bucket_54 (by decide) ?_
      exact V_pick [] rfl (r_X11_bucket_b58 (-1 : Int32) h e hF)
def F_X11_bucket (v0 : Nat) (v1 : Int32) (h : Hp) : Option Int32 := F_X11_bucket_b0 v0 v1 h
theorem c_X11_bucket {l : Launch} (v0 : Nat) (v1 : Int32) (h : Hp) {r : Int32} (e : F_X11_bucket v0 v1 h = some r) : Ct l yX11_bucket M_X11_bucket (some .int) 2 [.ref v0, .int v1] h 0 0 (some (.int r)) h :=
  Ct_of rfl rfl (fun q => by cases q) (Nat.le_of_ble_eq_true rfl) (fun x _ hF => V_pick [0, 1] rfl (r_X11_bucket_b0 v0 v1 h e hF))
theorem dX11_unnoticed_0 : decode cX11_unnoticed 0 = .ok (.iconst 0, 1) := by decide +kernel
theorem dX11_unnoticed_1 : decode cX11_unnoticed 1 = .ok (.istore_n 2, 1) := by decide +kernel
theorem dX11_unnoticed_2 : decode cX11_unnoticed 2 = .ok (.iconst (-1), 1) := by decide +kernel
theorem dX11_unnoticed_3 : decode cX11_unnoticed 3 = .ok (.istore_n 3, 1) := by decide +kernel
theorem dX11_unnoticed_4 : decode cX11_unnoticed 4 = .ok (.iconst 0, 1) := by decide +kernel
theorem dX11_unnoticed_5 : decode cX11_unnoticed 5 = .ok (.istore 4, 2) := by decide +kernel
theorem dX11_unnoticed_7 : decode cX11_unnoticed 7 = .ok (.iload 4, 2) := by decide +kernel
theorem dX11_unnoticed_9 : decode cX11_unnoticed 9 = .ok (.aload_n 0, 1) := by decide +kernel
theorem dX11_unnoticed_10 : decode cX11_unnoticed 10 = .ok (.getfield 19, 3) := by decide +kernel
theorem dX11_unnoticed_13 : decode cX11_unnoticed 13 = .ok (.getfield 273, 3) := by decide +kernel
theorem dX11_unnoticed_16 : decode cX11_unnoticed 16 = .ok (.if_icmp .ge 102, 3) := by decide +kernel
theorem dX11_unnoticed_19 : decode cX11_unnoticed 19 = .ok (.iload 4, 2) := by decide +kernel
theorem dX11_unnoticed_21 : decode cX11_unnoticed 21 = .ok (.iconst 1, 1) := by decide +kernel
theorem dX11_unnoticed_22 : decode cX11_unnoticed 22 = .ok (.iadd, 1) := by decide +kernel
theorem dX11_unnoticed_23 : decode cX11_unnoticed 23 = .ok (.istore 5, 2) := by decide +kernel
theorem dX11_unnoticed_25 : decode cX11_unnoticed 25 = .ok (.iload 5, 2) := by decide +kernel
theorem dX11_unnoticed_27 : decode cX11_unnoticed 27 = .ok (.aload_n 0, 1) := by decide +kernel
theorem dX11_unnoticed_28 : decode cX11_unnoticed 28 = .ok (.getfield 19, 3) := by decide +kernel
theorem dX11_unnoticed_31 : decode cX11_unnoticed 31 = .ok (.getfield 273, 3) := by decide +kernel
theorem dX11_unnoticed_34 : decode cX11_unnoticed 34 = .ok (.if_icmp .ge 78, 3) := by decide +kernel
theorem dX11_unnoticed_37 : decode cX11_unnoticed 37 = .ok (.iconst 0, 1) := by decide +kernel
theorem dX11_unnoticed_38 : decode cX11_unnoticed 38 = .ok (.istore 6, 2) := by decide +kernel
theorem dX11_unnoticed_40 : decode cX11_unnoticed 40 = .ok (.iload 6, 2) := by decide +kernel
theorem dX11_unnoticed_42 : decode cX11_unnoticed 42 = .ok (.aload_n 0, 1) := by decide +kernel
theorem dX11_unnoticed_43 : decode cX11_unnoticed 43 = .ok (.getfield 19, 3) := by decide +kernel
theorem dX11_unnoticed_46 : decode cX11_unnoticed 46 = .ok (.getfield 299, 3) := by decide +kernel
theorem dX11_unnoticed_49 : decode cX11_unnoticed 49 = .ok (.bipush 8, 2) := by decide +kernel
theorem dX11_unnoticed_51 : decode cX11_unnoticed 51 = .ok (.imul, 1) := by decide +kernel
theorem dX11_unnoticed_52 : decode cX11_unnoticed 52 = .ok (.if_icmp .ge 54, 3) := by decide +kernel
theorem dX11_unnoticed_55 : decode cX11_unnoticed 55 = .ok (.aload_n 0, 1) := by decide +kernel
theorem dX11_unnoticed_56 : decode cX11_unnoticed 56 = .ok (.iload 4, 2) := by decide +kernel
theorem dX11_unnoticed_58 : decode cX11_unnoticed 58 = .ok (.iload 5, 2) := by decide +kernel
theorem dX11_unnoticed_60 : decode cX11_unnoticed 60 = .ok (.iload 6, 2) := by decide +kernel
theorem dX11_unnoticed_62 : decode cX11_unnoticed 62 = .ok (.bipush 8, 2) := by decide +kernel
theorem dX11_unnoticed_64 : decode cX11_unnoticed 64 = .ok (.idiv, 1) := by decide +kernel
theorem dX11_unnoticed_65 : decode cX11_unnoticed 65 = .ok (.iload 6, 2) := by decide +kernel
theorem dX11_unnoticed_67 : decode cX11_unnoticed 67 = .ok (.bipush 8, 2) := by decide +kernel
theorem dX11_unnoticed_69 : decode cX11_unnoticed 69 = .ok (.irem, 1) := by decide +kernel
theorem dX11_unnoticed_70 : decode cX11_unnoticed 70 = .ok (.invokevirtual 313, 3) := by decide +kernel
theorem dX11_unnoticed_73 : decode cX11_unnoticed 73 = .ok (.ifCond .eq 27, 3) := by decide +kernel
theorem dX11_unnoticed_76 : decode cX11_unnoticed 76 = .ok (.iinc 2 1, 3) := by decide +kernel
theorem dX11_unnoticed_79 : decode cX11_unnoticed 79 = .ok (.iload_n 3, 1) := by decide +kernel
theorem dX11_unnoticed_80 : decode cX11_unnoticed 80 = .ok (.iconst (-1), 1) := by decide +kernel
theorem dX11_unnoticed_81 : decode cX11_unnoticed 81 = .ok (.if_icmp .ne 19, 3) := by decide +kernel
theorem dX11_unnoticed_84 : decode cX11_unnoticed 84 = .ok (.sipush 512, 3) := by decide +kernel
theorem dX11_unnoticed_87 : decode cX11_unnoticed 87 = .ok (.iload 4, 2) := by decide +kernel
theorem dX11_unnoticed_89 : decode cX11_unnoticed 89 = .ok (.imul, 1) := by decide +kernel
theorem dX11_unnoticed_90 : decode cX11_unnoticed 90 = .ok (.bipush 64, 2) := by decide +kernel
theorem dX11_unnoticed_92 : decode cX11_unnoticed 92 = .ok (.iload 5, 2) := by decide +kernel
theorem dX11_unnoticed_94 : decode cX11_unnoticed 94 = .ok (.imul, 1) := by decide +kernel
theorem dX11_unnoticed_95 : decode cX11_unnoticed 95 = .ok (.iadd, 1) := by decide +kernel
theorem dX11_unnoticed_96 : decode cX11_unnoticed 96 = .ok (.iload 6, 2) := by decide +kernel
theorem dX11_unnoticed_98 : decode cX11_unnoticed 98 = .ok (.iadd, 1) := by decide +kernel
theorem dX11_unnoticed_99 : decode cX11_unnoticed 99 = .ok (.istore_n 3, 1) := by decide +kernel
theorem dX11_unnoticed_100 : decode cX11_unnoticed 100 = .ok (.iinc 6 1, 3) := by decide +kernel
theorem dX11_unnoticed_103 : decode cX11_unnoticed 103 = .ok (.goto (-63), 3) := by decide +kernel
theorem dX11_unnoticed_106 : decode cX11_unnoticed 106 = .ok (.iinc 5 1, 3) := by decide +kernel
theorem dX11_unnoticed_109 : decode cX11_unnoticed 109 = .ok (.goto (-84), 3) := by decide +kernel
theorem dX11_unnoticed_112 : decode cX11_unnoticed 112 = .ok (.iinc 4 1, 3) := by decide +kernel
theorem dX11_unnoticed_115 : decode cX11_unnoticed 115 = .ok (.goto (-108), 3) := by decide +kernel
theorem dX11_unnoticed_118 : decode cX11_unnoticed 118 = .ok (.iload_n 1, 1) := by decide +kernel
theorem dX11_unnoticed_119 : decode cX11_unnoticed 119 = .ok (.ifCond .eq 7, 3) := by decide +kernel
theorem dX11_unnoticed_122 : decode cX11_unnoticed 122 = .ok (.iload_n 3, 1) := by decide +kernel
theorem dX11_unnoticed_123 : decode cX11_unnoticed 123 = .ok (.goto 4, 3) := by decide +kernel
theorem dX11_unnoticed_126 : decode cX11_unnoticed 126 = .ok (.iload_n 2, 1) := by decide +kernel
theorem dX11_unnoticed_127 : decode cX11_unnoticed 127 = .ok (.ireturn, 1) := by decide +kernel
set_option maxRecDepth 100000 in
def F_X11_unnoticed_b100 (v0 : Nat) (v1 : Int32) (v2 : Int32) (v3 : Int32) (v4 : Int32) (v5 : Int32) (v6 : Int32) (h : Hp) : Option ((Int32 × Int32 × Int32) ⊕ (Int32 × Int32)) :=
  some (.inl (v2, v3, v6 + (1 : Int32)))
set_option maxHeartbeats 4000000 in
set_option maxRecDepth 100000 in
theorem r_X11_unnoticed_b100 (v0 : Nat) (v1 : Int32) (v2 : Int32) (v3 : Int32) (v4 : Int32) (v5 : Int32) (v6 : Int32) (h : Hp) {x : Cx} {o : ((Int32 × Int32 × Int32) ⊕ (Int32 × Int32))} (e : F_X11_unnoticed_b100 v0 v1 v2 v3 v4 v5 v6 h = some o) (kI : ∀ z, o = .inl z → V M_X11_unnoticed x 2 40 [(0, .ref v0), (1, .int v1), (2, .int z.1), (3, .int z.2.1), (4, .int v4), (5, .int v5), (6, .int z.2.2)] [] h 0 0) (kE106 : ∀ z : Int32 × Int32, o = .inr z → V M_X11_unnoticed x 2 106 [(0, .ref v0), (1, .int v1), (2, .int z.1), (3, .int z.2), (4, .int v4), (5, .int v5)] [] h 0 0) : V M_X11_unnoticed x 2 100 [(0, .ref v0), (1, .int v1), (2, .int v2), (3, .int v3), (4, .int v4), (5, .int v5), (6, .int v6)] [] h 0 0 := by
  unfold F_X11_unnoticed_b100 at e
  refine V_iinc (pc := 100) (i := 6) (u := v6 + (1 : Int32)) (lv' := [(6, .int (v6 + (1 : Int32))), (0, .ref v0), (1, .int v1), (2, .int v2), (3, .int v3), (4, .int v4), (5, .int v5)]) dX11_unnoticed_100 rfl rfl (by decide) rfl ?_
  refine V_goto (pc := 103) (tgt := 40) dX11_unnoticed_103 (by decide) ?_
  cases e
  exact V_pick [1, 2, 3, 4, 5, 6, 0] rfl (kI (v2, v3, v6 + (1 : Int32)) rfl)
set_option maxRecDepth 100000 in
def F_X11_unnoticed_l40 (v0 : Nat) (v1 : Int32) (v2 : Int32) (v3 : Int32) (v4 : Int32) (v5 : Int32) (v6 : Int32) (h : Hp) : Option ((Int32 × Int32 × Int32) ⊕ (Int32 × Int32)) :=
  gd (decide (kd h v0 = 10)) <| ob (zR h v0 1) fun q10 => gd (decide (kd h q10 = 2)) <| (if ((zI h q10 0) * (8 : Int32)) ≤ v6 then some (.inr (v2, v3)) else ob (F_X11_isUnnoticed v0 v4 v5 (v6 / (8 : Int32)) (v6 - v6 / (8 : Int32) * (8 : Int32)) h) fun r14 => (if r14 = 0 then F_X11_unnoticed_b100 v0 v1 v2 v3 v4 v5 v6 h else (if v3 = (-1 : Int32) then F_X11_unnoticed_b100 v0 v1 (v2 + (1 : Int32)) ((((512 : Int32) * v4) + ((64 : Int32) * v5)) + v6) v4 v5 v6 h else F_X11_unnoticed_b100 v0 v1 (v2 + (1 : Int32)) v3 v4 v5 v6 h)))
set_option maxHeartbeats 4000000 in
set_option maxRecDepth 100000 in
theorem r_X11_unnoticed_l40 (v0 : Nat) (v1 : Int32) (v2 : Int32) (v3 : Int32) (v4 : Int32) (v5 : Int32) (v6 : Int32) (h : Hp) {x : Cx} {o : ((Int32 × Int32 × Int32) ⊕ (Int32 × Int32))} (e : F_X11_unnoticed_l40 v0 v1 v2 v3 v4 v5 v6 h = some o) (kI : ∀ z, o = .inl z → V M_X11_unnoticed x 2 40 [(0, .ref v0), (1, .int v1), (2, .int z.1), (3, .int z.2.1), (4, .int v4), (5, .int v5), (6, .int z.2.2)] [] h 0 0) (kE106 : ∀ z : Int32 × Int32, o = .inr z → V M_X11_unnoticed x 2 106 [(0, .ref v0), (1, .int v1), (2, .int z.1), (3, .int z.2), (4, .int v4), (5, .int v5)] [] h 0 0) : V M_X11_unnoticed x 2 40 [(0, .ref v0), (1, .int v1), (2, .int v2), (3, .int v3), (4, .int v4), (5, .int v5), (6, .int v6)] [] h 0 0 := by
  unfold F_X11_unnoticed_l40 at e
  refine V_iload (pc := 40) (i := 6) dX11_unnoticed_40 rfl ?_
  refine V_aload_n (pc := 42) (i := 0) dX11_unnoticed_42 rfl rfl ?_
  obtain ⟨g9, e⟩ := gd_some e
  obtain ⟨q10, g11, e⟩ := ob_some e
  refine V_getR (pc := 43) (ci := 10) (k := 1) (b := q10) dX11_unnoticed_43 fl_X11_19 rfl (of_decide_eq_true g9) g11 ?_
  obtain ⟨g12, e⟩ := gd_some e
  refine V_getI (pc := 46) (ci := 2) (k := 0) dX11_unnoticed_46 fl_X11_299 rfl (of_decide_eq_true g12) ?_
  refine V_bipush (pc := 49) (v := (8 : Int32)) dX11_unnoticed_49 (by decide) ?_
  refine V_imul (pc := 51) dX11_unnoticed_51 ?_
  refine V_icmp_ge (pc := 52) (tgt := 106) dX11_unnoticed_52 (by decide) (fun c17 => ?_) (fun c17 => ?_)
  · rw [if_pos c17] at e
    cases e
    exact V_pick [0, 1, 2, 3, 4, 5] rfl (kE106 (v2, v3) rfl)
  · rw [if_neg c17] at e
    refine V_pick [0, 1, 2, 3, 4, 5, 6] rfl ?_
    refine V_aload_n (pc := 55) (i := 0) dX11_unnoticed_55 rfl rfl ?_
    refine V_iload (pc := 56) (i := 4) dX11_unnoticed_56 rfl ?_
    refine V_iload (pc := 58) (i := 5) dX11_unnoticed_58 rfl ?_
    refine V_iload (pc := 60) (i := 6) dX11_unnoticed_60 rfl ?_
    refine V_bipush (pc := 62) (v := (8 : Int32)) dX11_unnoticed_62 (by decide) ?_
    refine V_idiv (pc := 64) dX11_unnoticed_64 (by decide) ?_
    refine V_iload (pc := 65) (i := 6) dX11_unnoticed_65 rfl ?_
    refine V_bipush (pc := 67) (v := (8 : Int32)) dX11_unnoticed_67 (by decide) ?_
    refine V_irem (pc := 69) dX11_unnoticed_69 (by decide) ?_
    obtain ⟨r14, g13, e⟩ := ob_some e
    refine V_callV (pc := 70) (bc := 0) (bs := 0) (mc := 0) (ms := 0) (st := []) (As := [.int v4, .int v5, .int (v6 / (8 : Int32)), .int (v6 - v6 / (8 : Int32) * (8 : Int32))]) (a := v0) (h' := h) (r := some (.int r14)) dX11_unnoticed_70 ml_X11_313 (ci := 10) rfl (of_decide_eq_true g9) rfl rfl (Nat.le_of_ble_eq_true rfl) (d' := 1) (by decide) (c_X11_isUnnoticed (l := x.2.1) v0 v4 v5 (v6 / (8 : Int32)) (v6 - v6 / (8 : Int32) * (8 : Int32)) h g13) ?_
    refine V_if_eq (pc := 73) (tgt := 100) dX11_unnoticed_73 (by decide) (fun c16 => ?_) (fun c16 => ?_)
    · rw [if_pos c16] at e
      exact V_pick [0, 1, 2, 3, 4, 5, 6] rfl (r_X11_unnoticed_b100 v0 v1 v2 v3 v4 v5 v6 h e kI kE106)
    · rw [if_neg c16] at e
      refine V_pick [0, 1, 2, 3, 4, 5, 6] rfl ?_
      refine V_iinc (pc := 76) (i := 2) (u := v2 + (1 : Int32)) (lv' := [(2, .int (v2 + (1 : Int32))), (0, .ref v0), (1, .int v1), (3, .int v3), (4, .int v4), (5, .int v5), (6, .int v6)]) dX11_unnoticed_76 rfl rfl (by decide) rfl ?_
      refine V_iload_n (pc := 79) (i := 3) dX11_unnoticed_79 rfl rfl ?_
      refine V_iconst (pc := 80) (v := (-1 : Int32)) dX11_unnoticed_80 (by decide) ?_
      refine V_icmp_ne (pc := 81) (tgt := 100) dX11_unnoticed_81 (by decide) (fun c15 => ?_) (fun c15 => ?_)
      · rw [if_neg c15] at e
        exact V_pick [1, 2, 0, 3, 4, 5, 6] rfl (r_X11_unnoticed_b100 v0 v1 (v2 + (1 : Int32)) v3 v4 v5 v6 h e kI kE106)
      · rw [if_pos c15] at e
        refine V_pick [1, 2, 0, 4, 5, 6] rfl ?_
        refine V_sipush (pc := 84) (v := (512 : Int32)) dX11_unnoticed_84 (by decide) ?_
        refine V_iload (pc := 87) (i := 4) dX11_unnoticed_87 rfl ?_
        refine V_imul (pc := 89) dX11_unnoticed_89 ?_
        refine V_bipush (pc := 90) (v := (64 : Int32)) dX11_unnoticed_90 (by decide) ?_
        refine V_iload (pc := 92) (i := 5) dX11_unnoticed_92 rfl ?_
        refine V_imul (pc := 94) dX11_unnoticed_94 ?_
        refine V_iadd (pc := 95) dX11_unnoticed_95 ?_
        refine V_iload (pc := 96) (i := 6) dX11_unnoticed_96 rfl ?_
        refine V_iadd (pc := 98) dX11_unnoticed_98 ?_
        refine V_istore_n (pc := 99) (i := 3) (lv' := [(3, .int ((((512 : Int32) * v4) + ((64 : Int32) * v5)) + v6)), (0, .ref v0), (1, .int v1), (2, .int (v2 + (1 : Int32))), (4, .int v4), (5, .int v5), (6, .int v6)]) dX11_unnoticed_99 rfl (by decide) rfl ?_
        exact V_pick [1, 2, 3, 0, 4, 5, 6] rfl (r_X11_unnoticed_b100 v0 v1 (v2 + (1 : Int32)) ((((512 : Int32) * v4) + ((64 : Int32) * v5)) + v6) v4 v5 v6 h e kI kE106)
set_option maxRecDepth 100000 in
def F_X11_unnoticed_l25 (v0 : Nat) (v1 : Int32) (v2 : Int32) (v3 : Int32) (v4 : Int32) (v5 : Int32) (h : Hp) : Option ((Int32 × Int32 × Int32) ⊕ (Int32 × Int32)) :=
  gd (decide (kd h v0 = 10)) <| ob (zR h v0 1) fun q6 => gd (decide (kd h q6 = 2)) <| (if (zI h q6 5) ≤ v5 then some (.inr (v2, v3)) else ob (iter (fun z : Int32 × Int32 × Int32 => F_X11_unnoticed_l40 v0 v1 z.1 z.2.1 v4 v5 z.2.2 h) FU (v2, v3, (0 : Int32))) (fun z => un2 z fun w18 w19 => some (.inl (w18, w19, v5 + (1 : Int32)))))
set_option maxHeartbeats 4000000 in
set_option maxRecDepth 100000 in
theorem r_X11_unnoticed_l25 (v0 : Nat) (v1 : Int32) (v2 : Int32) (v3 : Int32) (v4 : Int32) (v5 : Int32) (h : Hp) {x : Cx} {o : ((Int32 × Int32 × Int32) ⊕ (Int32 × Int32))} (e : F_X11_unnoticed_l25 v0 v1 v2 v3 v4 v5 h = some o) (kI : ∀ z, o = .inl z → V M_X11_unnoticed x 2 25 [(0, .ref v0), (1, .int v1), (2, .int z.1), (3, .int z.2.1), (4, .int v4), (5, .int z.2.2)] [] h 0 0) (kE112 : ∀ z : Int32 × Int32, o = .inr z → V M_X11_unnoticed x 2 112 [(0, .ref v0), (1, .int v1), (2, .int z.1), (3, .int z.2), (4, .int v4)] [] h 0 0) : V M_X11_unnoticed x 2 25 [(0, .ref v0), (1, .int v1), (2, .int v2), (3, .int v3), (4, .int v4), (5, .int v5)] [] h 0 0 := by
  unfold F_X11_unnoticed_l25 at e
  refine V_iload (pc := 25) (i := 5) dX11_unnoticed_25 rfl ?_
  refine V_aload_n (pc := 27) (i := 0) dX11_unnoticed_27 rfl rfl ?_
  obtain ⟨g5, e⟩ := gd_some e
  obtain ⟨q6, g7, e⟩ := ob_some e
  refine V_getR (pc := 28) (ci := 10) (k := 1) (b := q6) dX11_unnoticed_28 fl_X11_19 rfl (of_decide_eq_true g5) g7 ?_
  obtain ⟨g8, e⟩ := gd_some e
  refine V_getI (pc := 31) (ci := 2) (k := 5) dX11_unnoticed_31 fl_X11_273 rfl (of_decide_eq_true g8) ?_
  refine V_icmp_ge (pc := 34) (tgt := 112) dX11_unnoticed_34 (by decide) (fun c22 => ?_) (fun c22 => ?_)
  · rw [if_pos c22] at e
    cases e
    exact V_pick [0, 1, 2, 3, 4] rfl (kE112 (v2, v3) rfl)
  · rw [if_neg c22] at e
    refine V_pick [0, 1, 2, 3, 4, 5] rfl ?_
    refine V_iconst (pc := 37) (v := (0 : Int32)) dX11_unnoticed_37 (by decide) ?_
    refine V_istore (pc := 38) (i := 6) (lv' := [(6, .int (0 : Int32)), (0, .ref v0), (1, .int v1), (2, .int v2), (3, .int v3), (4, .int v4), (5, .int v5)]) dX11_unnoticed_38 (by decide) rfl ?_
    refine V_pick [1, 2, 3, 4, 5, 6, 0] rfl ?_
    obtain ⟨y20, g21, e⟩ := ob_some e
    refine iter_V (P := fun z : Int32 × Int32 × Int32 => V M_X11_unnoticed x 2 40 [(0, .ref v0), (1, .int v1), (2, .int z.1), (3, .int z.2.1), (4, .int v4), (5, .int v5), (6, .int z.2.2)] [] h 0 0) (E := fun z : Int32 × Int32 => V M_X11_unnoticed x 2 106 [(0, .ref v0), (1, .int v1), (2, .int z.1), (3, .int z.2), (4, .int v4), (5, .int v5)] [] h 0 0) (fun z o e9 k1 k2 => r_X11_unnoticed_l40 v0 v1 z.1 z.2.1 v4 v5 z.2.2 h e9 (fun z hz9 => k1 z hz9) (fun z hz9 => k2 _ hz9)) _ _ _ g21 ?_
    clear g21
    obtain ⟨w18, w19⟩ := y20
    replace e : (some (.inl (w18, w19, v5 + (1 : Int32)))) = some o := e
    show V M_X11_unnoticed x 2 106 [(0, .ref v0), (1, .int v1), (2, .int w18), (3, .int w19), (4, .int v4), (5, .int v5)] [] h 0 0
    refine V_iinc (pc := 106) (i := 5) (u := v5 + (1 : Int32)) (lv' := [(5, .int (v5 + (1 : Int32))), (0, .ref v0), (1, .int v1), (2, .int w18), (3, .int w19), (4, .int v4)]) dX11_unnoticed_106 rfl rfl (by decide) rfl ?_
    refine V_goto (pc := 109) (tgt := 25) dX11_unnoticed_109 (by decide) ?_
    cases e
    exact V_pick [1, 2, 3, 4, 5, 0] rfl (kI (w18, w19, v5 + (1 : Int32)) rfl)
set_option maxRecDepth 100000 in
def F_X11_unnoticed_l7 (v0 : Nat) (v1 : Int32) (v2 : Int32) (v3 : Int32) (v4 : Int32) (h : Hp) : Option ((Int32 × Int32 × Int32) ⊕ (Int32 × Int32)) :=
  gd (decide (kd h v0 = 10)) <| ob (zR h v0 1) fun q2 => gd (decide (kd h q2 = 2)) <| (if (zI h q2 5) ≤ v4 then some (.inr (v2, v3)) else ob (iter (fun z : Int32 × Int32 × Int32 => F_X11_unnoticed_l25 v0 v1 z.1 z.2.1 v4 z.2.2 h) FU (v2, v3, v4 + (1 : Int32))) (fun z => un2 z fun w23 w24 => some (.inl (w23, w24, v4 + (1 : Int32)))))
set_option maxHeartbeats 4000000 in
set_option maxRecDepth 100000 in
theorem r_X11_unnoticed_l7 (v0 : Nat) (v1 : Int32) (v2 : Int32) (v3 : Int32) (v4 : Int32) (h : Hp) {x : Cx} {o : ((Int32 × Int32 × Int32) ⊕ (Int32 × Int32))} (e : F_X11_unnoticed_l7 v0 v1 v2 v3 v4 h = some o) (kI : ∀ z, o = .inl z → V M_X11_unnoticed x 2 7 [(0, .ref v0), (1, .int v1), (2, .int z.1), (3, .int z.2.1), (4, .int z.2.2)] [] h 0 0) (kE118 : ∀ z : Int32 × Int32, o = .inr z → V M_X11_unnoticed x 2 118 [(1, .int v1), (2, .int z.1), (3, .int z.2)] [] h 0 0) : V M_X11_unnoticed x 2 7 [(0, .ref v0), (1, .int v1), (2, .int v2), (3, .int v3), (4, .int v4)] [] h 0 0 := by
  unfold F_X11_unnoticed_l7 at e
  refine V_iload (pc := 7) (i := 4) dX11_unnoticed_7 rfl ?_
  refine V_aload_n (pc := 9) (i := 0) dX11_unnoticed_9 rfl rfl ?_
  obtain ⟨g1, e⟩ := gd_some e
  obtain ⟨q2, g3, e⟩ := ob_some e
  refine V_getR (pc := 10) (ci := 10) (k := 1) (b := q2) dX11_unnoticed_10 fl_X11_19 rfl (of_decide_eq_true g1) g3 ?_
  obtain ⟨g4, e⟩ := gd_some e
  refine V_getI (pc := 13) (ci := 2) (k := 5) dX11_unnoticed_13 fl_X11_273 rfl (of_decide_eq_true g4) ?_
  refine V_icmp_ge (pc := 16) (tgt := 118) dX11_unnoticed_16 (by decide) (fun c27 => ?_) (fun c27 => ?_)
  · rw [if_pos c27] at e
    cases e
    exact V_pick [1, 2, 3] rfl (kE118 (v2, v3) rfl)
  · rw [if_neg c27] at e
    refine V_pick [0, 1, 2, 3, 4] rfl ?_
    refine V_iload (pc := 19) (i := 4) dX11_unnoticed_19 rfl ?_
    refine V_iconst (pc := 21) (v := (1 : Int32)) dX11_unnoticed_21 (by decide) ?_
    refine V_iadd (pc := 22) dX11_unnoticed_22 ?_
    refine V_istore (pc := 23) (i := 5) (lv' := [(5, .int (v4 + (1 : Int32))), (0, .ref v0), (1, .int v1), (2, .int v2), (3, .int v3), (4, .int v4)]) dX11_unnoticed_23 (by decide) rfl ?_
    refine V_pick [1, 2, 3, 4, 5, 0] rfl ?_
    obtain ⟨y25, g26, e⟩ := ob_some e
    refine iter_V (P := fun z : Int32 × Int32 × Int32 => V M_X11_unnoticed x 2 25 [(0, .ref v0), (1, .int v1), (2, .int z.1), (3, .int z.2.1), (4, .int v4), (5, .int z.2.2)] [] h 0 0) (E := fun z : Int32 × Int32 => V M_X11_unnoticed x 2 112 [(0, .ref v0), (1, .int v1), (2, .int z.1), (3, .int z.2), (4, .int v4)] [] h 0 0) (fun z o e9 k1 k2 => r_X11_unnoticed_l25 v0 v1 z.1 z.2.1 v4 z.2.2 h e9 (fun z hz9 => k1 z hz9) (fun z hz9 => k2 _ hz9)) _ _ _ g26 ?_
    clear g26
    obtain ⟨w23, w24⟩ := y25
    replace e : (some (.inl (w23, w24, v4 + (1 : Int32)))) = some o := e
    show V M_X11_unnoticed x 2 112 [(0, .ref v0), (1, .int v1), (2, .int w23), (3, .int w24), (4, .int v4)] [] h 0 0
    refine V_iinc (pc := 112) (i := 4) (u := v4 + (1 : Int32)) (lv' := [(4, .int (v4 + (1 : Int32))), (0, .ref v0), (1, .int v1), (2, .int w23), (3, .int w24)]) dX11_unnoticed_112 rfl rfl (by decide) rfl ?_
    refine V_goto (pc := 115) (tgt := 7) dX11_unnoticed_115 (by decide) ?_
    cases e
    exact V_pick [1, 2, 3, 4, 0] rfl (kI (w23, w24, v4 + (1 : Int32)) rfl)
set_option maxRecDepth 100000 in
def F_X11_unnoticed_b127 (t0 : Int32) (h : Hp) : Option Int32 :=
  some t0
set_option maxHeartbeats 4000000 in
set_option maxRecDepth 100000 in
theorem r_X11_unnoticed_b127 (t0 : Int32) (h : Hp) {x : Cx} {r : Int32} (e : F_X11_unnoticed_b127 t0 h = some r) (hF : Fin9 M_X11_unnoticed x (some .int) (some (.int r)) h) : V M_X11_unnoticed x 2 127 [] [.int t0] h 0 0 := by
  unfold F_X11_unnoticed_b127 at e
  cases e
  exact V_iret (pc := 127) dX11_unnoticed_127 hF
set_option maxRecDepth 100000 in
def F_X11_unnoticed_b0 (v0 : Nat) (v1 : Int32) (h : Hp) : Option Int32 :=
  ob (iter (fun z : Int32 × Int32 × Int32 => F_X11_unnoticed_l7 v0 v1 z.1 z.2.1 z.2.2 h) FU ((0 : Int32), (-1 : Int32), (0 : Int32))) (fun z => un2 z fun w28 w29 => (if v1 = 0 then F_X11_unnoticed_b127 w28 h else F_X11_unnoticed_b127 w29 h))
set_option maxHeartbeats 4000000 in
set_option maxRecDepth 100000 in
theorem r_X11_unnoticed_b0 (v0 : Nat) (v1 : Int32) (h : Hp) {x : Cx} {r : Int32} (e : F_X11_unnoticed_b0 v0 v1 h = some r) (hF : Fin9 M_X11_unnoticed x (some .int) (some (.int r)) h) : V M_X11_unnoticed x 2 0 [(0, .ref v0), (1, .int v1)] [] h 0 0 := by
  unfold F_X11_unnoticed_b0 at e
  refine V_iconst (pc := 0) (v := (0 : Int32)) dX11_unnoticed_0 (by decide) ?_
  refine V_istore_n (pc := 1) (i := 2) (lv' := [(2, .int (0 : Int32)), (0, .ref v0), (1, .int v1)]) dX11_unnoticed_1 rfl (by decide) rfl ?_
  refine V_iconst (pc := 2) (v := (-1 : Int32)) dX11_unnoticed_2 (by decide) ?_
  refine V_istore_n (pc := 3) (i := 3) (lv' := [(3, .int (-1 : Int32)), (2, .int (0 : Int32)), (0, .ref v0), (1, .int v1)]) dX11_unnoticed_3 rfl (by decide) rfl ?_
  refine V_iconst (pc := 4) (v := (0 : Int32)) dX11_unnoticed_4 (by decide) ?_
  refine V_istore (pc := 5) (i := 4) (lv' := [(4, .int (0 : Int32)), (3, .int (-1 : Int32)), (2, .int (0 : Int32)), (0, .ref v0), (1, .int v1)]) dX11_unnoticed_5 (by decide) rfl ?_
  refine V_pick [3, 4, 2, 1, 0] rfl ?_
  obtain ⟨y31, g32, e⟩ := ob_some e
  refine iter_V (P := fun z : Int32 × Int32 × Int32 => V M_X11_unnoticed x 2 7 [(0, .ref v0), (1, .int v1), (2, .int z.1), (3, .int z.2.1), (4, .int z.2.2)] [] h 0 0) (E := fun z : Int32 × Int32 => V M_X11_unnoticed x 2 118 [(1, .int v1), (2, .int z.1), (3, .int z.2)] [] h 0 0) (fun z o e9 k1 k2 => r_X11_unnoticed_l7 v0 v1 z.1 z.2.1 z.2.2 h e9 (fun z hz9 => k1 z hz9) (fun z hz9 => k2 _ hz9)) _ _ _ g32 ?_
  clear g32
  obtain ⟨w28, w29⟩ := y31
  replace e : ((if v1 = 0 then F_X11_unnoticed_b127 w28 h else F_X11_unnoticed_b127 w29 h)) = some r := e
  show V M_X11_unnoticed x 2 118 [(1, .int v1), (2, .int w28), (3, .int w29)] [] h 0 0
  refine V_iload_n (pc := 118) (i := 1) dX11_unnoticed_118 rfl rfl ?_
  refine V_if_eq (pc := 119) (tgt := 126) dX11_unnoticed_119 (by decide) (fun c30 => ?_) (fun c30 => ?_)
  · rw [if_pos c30] at e
    refine V_pick [1] rfl ?_
    refine V_iload_n (pc := 126) (i := 2) dX11_unnoticed_126 rfl rfl ?_
    exact V_pick [] rfl (r_X11_unnoticed_b127 w28 h e hF)
  · rw [if_neg c30] at e
    refine V_pick [2] rfl ?_
    refine V_iload_n (pc := 122) (i := 3) dX11_unnoticed_122 rfl rfl ?_
    refine V_goto (pc := 123) (tgt := 127) dX11_unnoticed_123 (by decide) ?_
    exact V_pick [] rfl (r_X11_unnoticed_b127 w29 h e hF)
def F_X11_unnoticed (v0 : Nat) (v1 : Int32) (h : Hp) : Option Int32 := F_X11_unnoticed_b0 v0 v1 h
theorem c_X11_unnoticed {l : Launch} (v0 : Nat) (v1 : Int32) (h : Hp) {r : Int32} (e : F_X11_unnoticed v0 v1 h = some r) : Ct l yX11_unnoticed M_X11_unnoticed (some .int) 2 [.ref v0, .int v1] h 0 0 (some (.int r)) h :=
  Ct_of rfl rfl (fun q => by cases q) (Nat.le_of_ble_eq_true rfl) (fun x _ hF => V_pick [0, 1] rfl (r_X11_unnoticed_b0 v0 v1 h e hF))
theorem dX11_fits_0 : decode cX11_fits 0 = .ok (.aload_n 0, 1) := by decide +kernel
theorem dX11_fits_1 : decode cX11_fits 1 = .ok (.getfield 19, 3) := by decide +kernel
theorem dX11_fits_4 : decode cX11_fits 4 = .ok (.iload_n 1, 1) := by decide +kernel
theorem dX11_fits_5 : decode cX11_fits 5 = .ok (.invokevirtual 332, 3) := by decide +kernel
theorem dX11_fits_8 : decode cX11_fits 8 = .ok (.ifCond .ne 14, 3) := by decide +kernel
theorem dX11_fits_11 : decode cX11_fits 11 = .ok (.new 113, 3) := by decide +kernel
theorem dX11_fits_14 : decode cX11_fits 14 = .ok (.dup, 1) := by decide +kernel
theorem dX11_fits_15 : decode cX11_fits 15 = .ok (.ldc_w 335, 3) := by decide +kernel
theorem dX11_fits_18 : decode cX11_fits 18 = .ok (.invokespecial 117, 3) := by decide +kernel
theorem dX11_fits_21 : decode cX11_fits 21 = .ok (.athrow, 1) := by decide +kernel
theorem dX11_fits_22 : decode cX11_fits 22 = .ok (.iconst 0, 1) := by decide +kernel
theorem dX11_fits_23 : decode cX11_fits 23 = .ok (.istore_n 2, 1) := by decide +kernel
theorem dX11_fits_24 : decode cX11_fits 24 = .ok (.aload_n 0, 1) := by decide +kernel
theorem dX11_fits_25 : decode cX11_fits 25 = .ok (.getfield 47, 3) := by decide +kernel
theorem dX11_fits_28 : decode cX11_fits 28 = .ok (.aload_n 0, 1) := by decide +kernel
theorem dX11_fits_29 : decode cX11_fits 29 = .ok (.getfield 19, 3) := by decide +kernel
theorem dX11_fits_32 : decode cX11_fits 32 = .ok (.aload_n 0, 1) := by decide +kernel
theorem dX11_fits_33 : decode cX11_fits 33 = .ok (.getfield 19, 3) := by decide +kernel
theorem dX11_fits_36 : decode cX11_fits 36 = .ok (.getfield 279, 3) := by decide +kernel
theorem dX11_fits_39 : decode cX11_fits 39 = .ok (.invokevirtual 282, 3) := by decide +kernel
theorem dX11_fits_42 : decode cX11_fits 42 = .ok (.iconst 0, 1) := by decide +kernel
theorem dX11_fits_43 : decode cX11_fits 43 = .ok (.istore_n 3, 1) := by decide +kernel
theorem dX11_fits_44 : decode cX11_fits 44 = .ok (.iload_n 3, 1) := by decide +kernel
theorem dX11_fits_45 : decode cX11_fits 45 = .ok (.ldc_w 286, 3) := by decide +kernel
theorem dX11_fits_48 : decode cX11_fits 48 = .ok (.if_icmp .ge 54, 3) := by decide +kernel
theorem dX11_fits_51 : decode cX11_fits 51 = .ok (.aload_n 0, 1) := by decide +kernel
theorem dX11_fits_52 : decode cX11_fits 52 = .ok (.getfield 47, 3) := by decide +kernel
theorem dX11_fits_55 : decode cX11_fits 55 = .ok (.aload_n 0, 1) := by decide +kernel
theorem dX11_fits_56 : decode cX11_fits 56 = .ok (.getfield 19, 3) := by decide +kernel
theorem dX11_fits_59 : decode cX11_fits 59 = .ok (.invokevirtual 287, 3) := by decide +kernel
theorem dX11_fits_62 : decode cX11_fits 62 = .ok (.ifCond .eq 40, 3) := by decide +kernel
theorem dX11_fits_65 : decode cX11_fits 65 = .ok (.aload_n 0, 1) := by decide +kernel
theorem dX11_fits_66 : decode cX11_fits 66 = .ok (.getfield 47, 3) := by decide +kernel
theorem dX11_fits_69 : decode cX11_fits 69 = .ok (.aload_n 0, 1) := by decide +kernel
theorem dX11_fits_70 : decode cX11_fits 70 = .ok (.getfield 19, 3) := by decide +kernel
theorem dX11_fits_73 : decode cX11_fits 73 = .ok (.getfield 326, 3) := by decide +kernel
theorem dX11_fits_76 : decode cX11_fits 76 = .ok (.iload_n 1, 1) := by decide +kernel
theorem dX11_fits_77 : decode cX11_fits 77 = .ok (.iaload, 1) := by decide +kernel
theorem dX11_fits_78 : decode cX11_fits 78 = .ok (.aload_n 0, 1) := by decide +kernel
theorem dX11_fits_79 : decode cX11_fits 79 = .ok (.getfield 19, 3) := by decide +kernel
theorem dX11_fits_82 : decode cX11_fits 82 = .ok (.getfield 329, 3) := by decide +kernel
theorem dX11_fits_85 : decode cX11_fits 85 = .ok (.iload_n 1, 1) := by decide +kernel
theorem dX11_fits_86 : decode cX11_fits 86 = .ok (.iaload, 1) := by decide +kernel
theorem dX11_fits_87 : decode cX11_fits 87 = .ok (.invokevirtual 337, 3) := by decide +kernel
theorem dX11_fits_90 : decode cX11_fits 90 = .ok (.ifCond .eq 6, 3) := by decide +kernel
theorem dX11_fits_93 : decode cX11_fits 93 = .ok (.iinc 2 1, 3) := by decide +kernel
theorem dX11_fits_96 : decode cX11_fits 96 = .ok (.iinc 3 1, 3) := by decide +kernel
theorem dX11_fits_99 : decode cX11_fits 99 = .ok (.goto (-55), 3) := by decide +kernel
theorem dX11_fits_102 : decode cX11_fits 102 = .ok (.iload_n 2, 1) := by decide +kernel
theorem dX11_fits_103 : decode cX11_fits 103 = .ok (.ireturn, 1) := by decide +kernel
set_option maxRecDepth 100000 in
def F_X11_fits_b96 (v0 : Nat) (v1 : Int32) (v2 : Int32) (v3 : Int32) (h : Hp) : Option ((Int32 × Int32 × Hp) ⊕ (Int32 × Hp)) :=
  some (.inl (v2, v3 + (1 : Int32), h))
set_option maxHeartbeats 4000000 in
set_option maxRecDepth 100000 in
theorem r_X11_fits_b96 (v0 : Nat) (v1 : Int32) (v2 : Int32) (v3 : Int32) (h : Hp) {bc bs : Nat} {x : Cx} {o : ((Int32 × Int32 × Hp) ⊕ (Int32 × Hp))} (e : F_X11_fits_b96 v0 v1 v2 v3 h = some o) (kI : ∀ z, o = .inl z → V M_X11_fits x 8 44 [(0, .ref v0), (1, .int v1), (2, .int z.1), (3, .int z.2.1)] [] z.2.2 bc bs) (kE102 : ∀ z : Int32 × Hp, o = .inr z → V M_X11_fits x 8 102 [(2, .int z.1)] [] z.2 bc bs) : V M_X11_fits x 8 96 [(0, .ref v0), (1, .int v1), (2, .int v2), (3, .int v3)] [] h bc bs := by
  unfold F_X11_fits_b96 at e
  refine V_iinc (pc := 96) (i := 3) (u := v3 + (1 : Int32)) (lv' := [(3, .int (v3 + (1 : Int32))), (0, .ref v0), (1, .int v1), (2, .int v2)]) dX11_fits_96 rfl rfl (by decide) rfl ?_
  refine V_goto (pc := 99) (tgt := 44) dX11_fits_99 (by decide) ?_
  cases e
  exact V_pick [1, 2, 3, 0] rfl (kI (v2, v3 + (1 : Int32), h) rfl)
set_option maxRecDepth 100000 in
def F_X11_fits_l44 (v0 : Nat) (v1 : Int32) (v2 : Int32) (v3 : Int32) (h : Hp) : Option ((Int32 × Int32 × Hp) ⊕ (Int32 × Hp)) :=
  (if (32768 : Int32) ≤ v3 then some (.inr (v2, h)) else gd (decide (kd h v0 = 10)) <| ob (zR h v0 5) fun q19 => ob (zR h v0 1) fun q21 => ob2 (F_X9_advance q19 q21 h) fun r24 h25 => gd (decide (kd h q19 = 8)) <| (if r24 = 0 then some (.inr (v2, h25)) else gd (decide (kd h25 v0 = 10)) <| ob (zR h25 v0 5) fun q28 => ob (zR h25 v0 1) fun q30 => gd (decide (kd h25 q30 = 2)) <| ob (zR h25 q30 18) fun q33 => gd (decide (kd h25 q33 = 13)) <| gd (ix v1 (zl h25 q33)) <| ob (zR h25 v0 1) fun q37 => gd (decide (kd h25 q37 = 2)) <| ob (zR h25 q37 19) fun q40 => gd (decide (kd h25 q40 = 13)) <| gd (ix v1 (zl h25 q40)) <| ob (F_X9_isAt q28 (zI h25 q33 (v1).toNatClampNeg) (zI h25 q40 (v1).toNatClampNeg) h25) fun r45 => gd (decide (kd h25 q28 = 8)) <| (if r45 = 0 then F_X11_fits_b96 v0 v1 v2 v3 h25 else F_X11_fits_b96 v0 v1 (v2 + (1 : Int32)) v3 h25)))
set_option maxHeartbeats 4000000 in
set_option maxRecDepth 100000 in
theorem r_X11_fits_l44 (v0 : Nat) (v1 : Int32) (v2 : Int32) (v3 : Int32) (h : Hp) {bc bs : Nat} {x : Cx} {o : ((Int32 × Int32 × Hp) ⊕ (Int32 × Hp))} (e : F_X11_fits_l44 v0 v1 v2 v3 h = some o) (kI : ∀ z, o = .inl z → V M_X11_fits x 8 44 [(0, .ref v0), (1, .int v1), (2, .int z.1), (3, .int z.2.1)] [] z.2.2 bc bs) (kE102 : ∀ z : Int32 × Hp, o = .inr z → V M_X11_fits x 8 102 [(2, .int z.1)] [] z.2 bc bs) : V M_X11_fits x 8 44 [(0, .ref v0), (1, .int v1), (2, .int v2), (3, .int v3)] [] h bc bs := by
  unfold F_X11_fits_l44 at e
  refine V_iload_n (pc := 44) (i := 3) dX11_fits_44 rfl rfl ?_
  refine V_ldcw (pc := 45) (v := (32768 : Int32)) dX11_fits_45 (wk_X11_286) ?_
  refine V_icmp_ge (pc := 48) (tgt := 102) dX11_fits_48 (by decide) (fun c49 => ?_) (fun c49 => ?_)
  · rw [if_pos c49] at e
    cases e
    exact V_pick [2] rfl (kE102 (v2, h) rfl)
  · rw [if_neg c49] at e
    refine V_pick [0, 1, 2, 3] rfl ?_
    refine V_aload_n (pc := 51) (i := 0) dX11_fits_51 rfl rfl ?_
    replace e := gd_some e
    obtain ⟨g18, e⟩ := e
    replace e := ob_some e
    obtain ⟨q19, g20, e⟩ := e
    refine V_getR (pc := 52) (ci := 10) (k := 5) (b := q19) dX11_fits_52 fl_X11_47 rfl (of_decide_eq_true g18) g20 ?_
    refine V_aload_n (pc := 55) (i := 0) dX11_fits_55 rfl rfl ?_
    replace e := ob_some e
    obtain ⟨q21, g22, e⟩ := e
    refine V_getR (pc := 56) (ci := 10) (k := 1) (b := q21) dX11_fits_56 fl_X11_19 rfl (of_decide_eq_true g18) g22 ?_
    replace e := ob2_some e
    obtain ⟨r24, h25, g23, e⟩ := e
    replace e := gd_some e
    obtain ⟨g26, e⟩ := e
    refine V_callV (pc := 59) (bc := bc) (bs := bs) (mc := 0) (ms := 0) (st := []) (As := [.ref q21]) (a := q19) (h' := h25) (r := some (.int r24)) dX11_fits_59 ml_X11_287 (ci := 8) rfl (of_decide_eq_true g26) rfl rfl (Nat.le_of_ble_eq_true rfl) (d' := 1) (by decide) (c_X9_advance (l := x.2.1) q19 q21 h g23) ?_
    refine V_if_eq (pc := 62) (tgt := 102) dX11_fits_62 (by decide) (fun c48 => ?_) (fun c48 => ?_)
    · rw [if_pos c48] at e
      cases e
      exact V_pick [2] rfl (kE102 (v2, h25) rfl)
    · rw [if_neg c48] at e
      refine V_pick [0, 1, 2, 3] rfl ?_
      refine V_aload_n (pc := 65) (i := 0) dX11_fits_65 rfl rfl ?_
      replace e := gd_some e
      obtain ⟨g27, e⟩ := e
      replace e := ob_some e
      obtain ⟨q28, g29, e⟩ := e
      refine V_getR (pc := 66) (ci := 10) (k := 5) (b := q28) dX11_fits_66 fl_X11_47 rfl (of_decide_eq_true g27) g29 ?_
      refine V_aload_n (pc := 69) (i := 0) dX11_fits_69 rfl rfl ?_
      replace e := ob_some e
      obtain ⟨q30, g31, e⟩ := e
      refine V_getR (pc := 70) (ci := 10) (k := 1) (b := q30) dX11_fits_70 fl_X11_19 rfl (of_decide_eq_true g27) g31 ?_
      replace e := gd_some e
      obtain ⟨g32, e⟩ := e
      replace e := ob_some e
      obtain ⟨q33, g34, e⟩ := e
      refine V_getR (pc := 73) (ci := 2) (k := 18) (b := q33) dX11_fits_73 fl_X11_326 rfl (of_decide_eq_true g32) g34 ?_
      refine V_iload_n (pc := 76) (i := 1) dX11_fits_76 rfl rfl ?_
      replace e := gd_some e
      obtain ⟨g35, e⟩ := e
      replace e := gd_some e
      obtain ⟨g36, e⟩ := e
      refine V_iald (pc := 77) dX11_fits_77 (of_decide_eq_true g35) (ix_in g36) ?_
      refine V_aload_n (pc := 78) (i := 0) dX11_fits_78 rfl rfl ?_
      replace e := ob_some e
      obtain ⟨q37, g38, e⟩ := e
      refine V_getR (pc := 79) (ci := 10) (k := 1) (b := q37) dX11_fits_79 fl_X11_19 rfl (of_decide_eq_true g27) g38 ?_
      replace e := gd_some e
      obtain ⟨g39, e⟩ := e
      replace e := ob_some e
      obtain ⟨q40, g41, e⟩ := e
      refine V_getR (pc := 82) (ci := 2) (k := 19) (b := q40) dX11_fits_82 fl_X11_329 rfl (of_decide_eq_true g39) g41 ?_
      refine V_iload_n (pc := 85) (i := 1) dX11_fits_85 rfl rfl ?_
      replace e := gd_some e
      obtain ⟨g42, e⟩ := e
      replace e := gd_some e
      obtain ⟨g43, e⟩ := e
      refine V_iald (pc := 86) dX11_fits_86 (of_decide_eq_true g42) (ix_in g43) ?_
      replace e := ob_some e
      obtain ⟨r45, g44, e⟩ := e
      replace e := gd_some e
      obtain ⟨g46, e⟩ := e
      refine V_callV (pc := 87) (bc := bc) (bs := bs) (mc := 0) (ms := 0) (st := []) (As := [.int (zI h25 q33 (v1).toNatClampNeg), .int (zI h25 q40 (v1).toNatClampNeg)]) (a := q28) (h' := h25) (r := some (.int r45)) dX11_fits_87 ml_X11_337 (ci := 8) rfl (of_decide_eq_true g46) rfl rfl (Nat.le_of_ble_eq_true rfl) (d' := 0) (by decide) (c_X9_isAt (l := x.2.1) q28 (zI h25 q33 (v1).toNatClampNeg) (zI h25 q40 (v1).toNatClampNeg) h25 g44) ?_
      refine V_if_eq (pc := 90) (tgt := 96) dX11_fits_90 (by decide) (fun c47 => ?_) (fun c47 => ?_)
      · rw [if_pos c47] at e
        exact V_pick [0, 1, 2, 3] rfl (r_X11_fits_b96 v0 v1 v2 v3 h25 e kI kE102)
      · rw [if_neg c47] at e
        refine V_pick [0, 1, 2, 3] rfl ?_
        refine V_iinc (pc := 93) (i := 2) (u := v2 + (1 : Int32)) (lv' := [(2, .int (v2 + (1 : Int32))), (0, .ref v0), (1, .int v1), (3, .int v3)]) dX11_fits_93 rfl rfl (by decide) rfl ?_
        exact V_pick [1, 2, 0, 3] rfl (r_X11_fits_b96 v0 v1 (v2 + (1 : Int32)) v3 h25 e kI kE102)
set_option maxRecDepth 100000 in
def F_X11_fits_b102 (v2 : Int32) (h : Hp) : Option ((Int32 ⊕ Nat) × Hp × Nat × Nat) :=
  some (.inl v2, h, 0, 0)
set_option maxHeartbeats 4000000 in
set_option maxRecDepth 100000 in
theorem r_X11_fits_b102 (v2 : Int32) (h : Hp) {x : Cx} {r : (Int32 ⊕ Nat)} {hz : Hp} {c9 s9 : Nat} (e : F_X11_fits_b102 v2 h = some (r, hz, c9, s9)) (hF : FinO M_X11_fits x (some .int) r hz) : V M_X11_fits x 8 102 [(2, .int v2)] [] h c9 s9 := by
  unfold F_X11_fits_b102 at e
  refine V_iload_n (pc := 102) (i := 2) dX11_fits_102 rfl rfl ?_
  cases e
  exact V_iret (pc := 103) dX11_fits_103 hF
set_option maxRecDepth 100000 in
def F_X11_fits_b0 (v0 : Nat) (v1 : Int32) (h : Hp) : Option ((Int32 ⊕ Nat) × Hp × Nat × Nat) :=
  gd (decide (kd h v0 = 10)) <| ob (zR h v0 1) fun q2 => ob (F_X2_hasReading q2 v1 h) fun r5 => gd (decide (kd h q2 = 2)) <| (if r5 = 0 then some (.inr 2, h, 1, 6) else ob (zR h v0 5) fun q7 => ob (zR h v0 1) fun q9 => ob (zR h v0 1) fun q11 => gd (decide (kd h q11 = 2)) <| ob2 (F_X9_start q7 q9 (zI h q11 11) h) fun _ h16 => gd (decide (kd h q7 = 8)) <| ob (iter (fun z : Int32 × Int32 × Hp => F_X11_fits_l44 v0 v1 z.1 z.2.1 z.2.2) FU ((0 : Int32), (0 : Int32), h16)) (fun z => un2 z fun w50 h51 => F_X11_fits_b102 w50 h51))
set_option maxHeartbeats 4000000 in
set_option maxRecDepth 100000 in
theorem r_X11_fits_b0 (v0 : Nat) (v1 : Int32) (h : Hp) {x : Cx} {r : (Int32 ⊕ Nat)} {hz : Hp} {c9 s9 : Nat} (e : F_X11_fits_b0 v0 v1 h = some (r, hz, c9, s9)) (hF : FinO M_X11_fits x (some .int) r hz) : V M_X11_fits x 8 0 [(0, .ref v0), (1, .int v1)] [] h c9 s9 := by
  unfold F_X11_fits_b0 at e
  refine V_aload_n (pc := 0) (i := 0) dX11_fits_0 rfl rfl ?_
  replace e := gd_some e
  obtain ⟨g1, e⟩ := e
  replace e := ob_some e
  obtain ⟨q2, g3, e⟩ := e
  refine V_getR (pc := 1) (ci := 10) (k := 1) (b := q2) dX11_fits_1 fl_X11_19 rfl (of_decide_eq_true g1) g3 ?_
  refine V_iload_n (pc := 4) (i := 1) dX11_fits_4 rfl rfl ?_
  replace e := ob_some e
  obtain ⟨r5, g4, e⟩ := e
  replace e := gd_some e
  obtain ⟨g6, e⟩ := e
  refine V_callV (pc := 5) (bc := c9) (bs := s9) (mc := 0) (ms := 0) (st := []) (As := [.int v1]) (a := q2) (h' := h) (r := some (.int r5)) dX11_fits_5 ml_X11_332 (ci := 2) rfl (of_decide_eq_true g6) rfl rfl (Nat.le_of_ble_eq_true rfl) (d' := 0) (by decide) (c_X2_hasReading (l := x.2.1) q2 v1 h g4) ?_
  refine V_if_ne (pc := 8) (tgt := 22) dX11_fits_8 (by decide) (fun c54 => ?_) (fun c54 => ?_)
  · rw [if_neg c54] at e
    refine V_pick [0, 1] rfl ?_
    refine V_iconst (pc := 22) (v := (0 : Int32)) dX11_fits_22 (by decide) ?_
    refine V_istore_n (pc := 23) (i := 2) (lv' := [(2, .int (0 : Int32)), (0, .ref v0), (1, .int v1)]) dX11_fits_23 rfl (by decide) rfl ?_
    refine V_aload_n (pc := 24) (i := 0) dX11_fits_24 rfl rfl ?_
    replace e := ob_some e
    obtain ⟨q7, g8, e⟩ := e
    refine V_getR (pc := 25) (ci := 10) (k := 5) (b := q7) dX11_fits_25 fl_X11_47 rfl (of_decide_eq_true g1) g8 ?_
    refine V_aload_n (pc := 28) (i := 0) dX11_fits_28 rfl rfl ?_
    replace e := ob_some e
    obtain ⟨q9, g10, e⟩ := e
    refine V_getR (pc := 29) (ci := 10) (k := 1) (b := q9) dX11_fits_29 fl_X11_19 rfl (of_decide_eq_true g1) g10 ?_
    refine V_aload_n (pc := 32) (i := 0) dX11_fits_32 rfl rfl ?_
    replace e := ob_some e
    obtain ⟨q11, g12, e⟩ := e
    refine V_getR (pc := 33) (ci := 10) (k := 1) (b := q11) dX11_fits_33 fl_X11_19 rfl (of_decide_eq_true g1) g12 ?_
    replace e := gd_some e
    obtain ⟨g13, e⟩ := e
    refine V_getI (pc := 36) (ci := 2) (k := 11) dX11_fits_36 fl_X11_279 rfl (of_decide_eq_true g13) ?_
    replace e := ob2_some e
    obtain ⟨r15, h16, g14, e⟩ := e
    replace e := gd_some e
    obtain ⟨g17, e⟩ := e
    refine V_callV (pc := 39) (bc := c9) (bs := s9) (mc := 0) (ms := 0) (st := []) (As := [.ref q9, .int (zI h q11 11)]) (a := q7) (h' := h16) (r := none) dX11_fits_39 ml_X11_282 (ci := 8) rfl (of_decide_eq_true g17) rfl rfl (Nat.le_of_ble_eq_true rfl) (d' := 1) (by decide) (c_X9_start (l := x.2.1) q7 q9 (zI h q11 11) h g14) ?_
    refine V_iconst (pc := 42) (v := (0 : Int32)) dX11_fits_42 (by decide) ?_
    refine V_istore_n (pc := 43) (i := 3) (lv' := [(3, .int (0 : Int32)), (2, .int (0 : Int32)), (0, .ref v0), (1, .int v1)]) dX11_fits_43 rfl (by decide) rfl ?_
    refine V_pick [2, 3, 1, 0] rfl ?_
    replace e := ob_some e
    obtain ⟨y52, g53, e⟩ := e
    refine iter_V (P := fun z : Int32 × Int32 × Hp => V M_X11_fits x 8 44 [(0, .ref v0), (1, .int v1), (2, .int z.1), (3, .int z.2.1)] [] z.2.2 c9 s9) (E := fun z : Int32 × Hp => V M_X11_fits x 8 102 [(2, .int z.1)] [] z.2 c9 s9) (fun z o e9 k1 k2 => r_X11_fits_l44 v0 v1 z.1 z.2.1 z.2.2 e9 (fun z hz9 => k1 z hz9) (fun z hz9 => k2 _ hz9)) _ _ _ g53 ?_
    clear g53
    obtain ⟨w50, h51⟩ := y52
    replace e : (F_X11_fits_b102 w50 h51) = some (r, hz, c9, s9) := e
    show V M_X11_fits x 8 102 [(2, .int w50)] [] h51 c9 s9
    exact V_pick [0] rfl (r_X11_fits_b102 w50 h51 e hF)
  · rw [if_pos c54] at e
    refine V_pick [] rfl ?_
    cases e
    exact V_throwW (pc := 11) (j := 36) hF th_X11_113_117 rfl (by decide) (Nat.le_of_ble_eq_true rfl) dX11_fits_11 dX11_fits_14 dX11_fits_15 dX11_fits_18 dX11_fits_21
def F_X11_fits (v0 : Nat) (v1 : Int32) (h : Hp) : Option ((Int32 ⊕ Nat) × Hp × Nat × Nat) := F_X11_fits_b0 v0 v1 h
theorem c_X11_fits {l : Launch} (v0 : Nat) (v1 : Int32) (h : Hp) {r : Int32} {hz : Hp} {c9 s9 : Nat} (e : F_X11_fits v0 v1 h = some (.inl r, hz, c9, s9)) : Ct l yX11_fits M_X11_fits (some .int) 8 [.ref v0, .int v1] h c9 s9 (some (.int r)) hz :=
  Ct_of rfl rfl (fun q => by cases q) (Nat.le_of_ble_eq_true rfl) (fun x _ hF => V_pick [0, 1] rfl (r_X11_fits_b0 v0 v1 h e hF))
theorem cX_X11_fits {l : Launch} (hst : l.stackTraces = false) (v0 : Nat) (v1 : Int32) (h : Hp) {k : Nat} {hz : Hp} {c9 s9 : Nat} (e : F_X11_fits v0 v1 h = some (.inr k, hz, c9, s9)) : CtX l yX11_fits M_X11_fits (some .int) 8 [.ref v0, .int v1] h c9 s9 (exN k) hz :=
  CtX_of hst rfl rfl (fun q => by cases q) (Nat.le_of_ble_eq_true rfl) (fun x _ hF => V_pick [0, 1] rfl (r_X11_fits_b0 v0 v1 h e hF))
theorem dX11_meeting_0 : decode cX11_meeting 0 = .ok (.aload_n 0, 1) := by decide +kernel
theorem dX11_meeting_1 : decode cX11_meeting 1 = .ok (.getfield 19, 3) := by decide +kernel
theorem dX11_meeting_4 : decode cX11_meeting 4 = .ok (.iload_n 1, 1) := by decide +kernel
theorem dX11_meeting_5 : decode cX11_meeting 5 = .ok (.invokevirtual 332, 3) := by decide +kernel
theorem dX11_meeting_8 : decode cX11_meeting 8 = .ok (.ifCond .eq 25, 3) := by decide +kernel
theorem dX11_meeting_11 : decode cX11_meeting 11 = .ok (.aload_n 0, 1) := by decide +kernel
theorem dX11_meeting_12 : decode cX11_meeting 12 = .ok (.getfield 19, 3) := by decide +kernel
theorem dX11_meeting_15 : decode cX11_meeting 15 = .ok (.iload_n 2, 1) := by decide +kernel
theorem dX11_meeting_16 : decode cX11_meeting 16 = .ok (.invokevirtual 109, 3) := by decide +kernel
theorem dX11_meeting_19 : decode cX11_meeting 19 = .ok (.ifCond .eq 14, 3) := by decide +kernel
theorem dX11_meeting_22 : decode cX11_meeting 22 = .ok (.aload_n 0, 1) := by decide +kernel
theorem dX11_meeting_23 : decode cX11_meeting 23 = .ok (.getfield 19, 3) := by decide +kernel
theorem dX11_meeting_26 : decode cX11_meeting 26 = .ok (.iload_n 3, 1) := by decide +kernel
theorem dX11_meeting_27 : decode cX11_meeting 27 = .ok (.invokevirtual 109, 3) := by decide +kernel
theorem dX11_meeting_30 : decode cX11_meeting 30 = .ok (.ifCond .ne 14, 3) := by decide +kernel
theorem dX11_meeting_33 : decode cX11_meeting 33 = .ok (.new 113, 3) := by decide +kernel
theorem dX11_meeting_36 : decode cX11_meeting 36 = .ok (.dup, 1) := by decide +kernel
theorem dX11_meeting_37 : decode cX11_meeting 37 = .ok (.ldc_w 341, 3) := by decide +kernel
theorem dX11_meeting_40 : decode cX11_meeting 40 = .ok (.invokespecial 117, 3) := by decide +kernel
theorem dX11_meeting_43 : decode cX11_meeting 43 = .ok (.athrow, 1) := by decide +kernel
theorem dX11_meeting_44 : decode cX11_meeting 44 = .ok (.iconst 0, 1) := by decide +kernel
theorem dX11_meeting_45 : decode cX11_meeting 45 = .ok (.istore 4, 2) := by decide +kernel
theorem dX11_meeting_47 : decode cX11_meeting 47 = .ok (.iconst 0, 1) := by decide +kernel
theorem dX11_meeting_48 : decode cX11_meeting 48 = .ok (.istore 5, 2) := by decide +kernel
theorem dX11_meeting_50 : decode cX11_meeting 50 = .ok (.aload_n 0, 1) := by decide +kernel
theorem dX11_meeting_51 : decode cX11_meeting 51 = .ok (.getfield 47, 3) := by decide +kernel
theorem dX11_meeting_54 : decode cX11_meeting 54 = .ok (.aload_n 0, 1) := by decide +kernel
theorem dX11_meeting_55 : decode cX11_meeting 55 = .ok (.getfield 19, 3) := by decide +kernel
theorem dX11_meeting_58 : decode cX11_meeting 58 = .ok (.aload_n 0, 1) := by decide +kernel
theorem dX11_meeting_59 : decode cX11_meeting 59 = .ok (.getfield 19, 3) := by decide +kernel
theorem dX11_meeting_62 : decode cX11_meeting 62 = .ok (.getfield 279, 3) := by decide +kernel
theorem dX11_meeting_65 : decode cX11_meeting 65 = .ok (.invokevirtual 282, 3) := by decide +kernel
theorem dX11_meeting_68 : decode cX11_meeting 68 = .ok (.iconst 0, 1) := by decide +kernel
theorem dX11_meeting_69 : decode cX11_meeting 69 = .ok (.istore 6, 2) := by decide +kernel
theorem dX11_meeting_71 : decode cX11_meeting 71 = .ok (.iload 6, 2) := by decide +kernel
theorem dX11_meeting_73 : decode cX11_meeting 73 = .ok (.ldc_w 286, 3) := by decide +kernel
theorem dX11_meeting_76 : decode cX11_meeting 76 = .ok (.if_icmp .ge 81, 3) := by decide +kernel
theorem dX11_meeting_79 : decode cX11_meeting 79 = .ok (.aload_n 0, 1) := by decide +kernel
theorem dX11_meeting_80 : decode cX11_meeting 80 = .ok (.getfield 47, 3) := by decide +kernel
theorem dX11_meeting_83 : decode cX11_meeting 83 = .ok (.aload_n 0, 1) := by decide +kernel
theorem dX11_meeting_84 : decode cX11_meeting 84 = .ok (.getfield 19, 3) := by decide +kernel
theorem dX11_meeting_87 : decode cX11_meeting 87 = .ok (.invokevirtual 287, 3) := by decide +kernel
theorem dX11_meeting_90 : decode cX11_meeting 90 = .ok (.ifCond .eq 67, 3) := by decide +kernel
theorem dX11_meeting_93 : decode cX11_meeting 93 = .ok (.aload_n 0, 1) := by decide +kernel
theorem dX11_meeting_94 : decode cX11_meeting 94 = .ok (.getfield 47, 3) := by decide +kernel
theorem dX11_meeting_97 : decode cX11_meeting 97 = .ok (.aload_n 0, 1) := by decide +kernel
theorem dX11_meeting_98 : decode cX11_meeting 98 = .ok (.getfield 19, 3) := by decide +kernel
theorem dX11_meeting_101 : decode cX11_meeting 101 = .ok (.getfield 326, 3) := by decide +kernel
theorem dX11_meeting_104 : decode cX11_meeting 104 = .ok (.iload_n 1, 1) := by decide +kernel
theorem dX11_meeting_105 : decode cX11_meeting 105 = .ok (.iaload, 1) := by decide +kernel
theorem dX11_meeting_106 : decode cX11_meeting 106 = .ok (.aload_n 0, 1) := by decide +kernel
theorem dX11_meeting_107 : decode cX11_meeting 107 = .ok (.getfield 19, 3) := by decide +kernel
theorem dX11_meeting_110 : decode cX11_meeting 110 = .ok (.getfield 329, 3) := by decide +kernel
theorem dX11_meeting_113 : decode cX11_meeting 113 = .ok (.iload_n 1, 1) := by decide +kernel
theorem dX11_meeting_114 : decode cX11_meeting 114 = .ok (.iaload, 1) := by decide +kernel
theorem dX11_meeting_115 : decode cX11_meeting 115 = .ok (.invokevirtual 337, 3) := by decide +kernel
theorem dX11_meeting_118 : decode cX11_meeting 118 = .ok (.ifCond .eq 33, 3) := by decide +kernel
theorem dX11_meeting_121 : decode cX11_meeting 121 = .ok (.aload_n 0, 1) := by decide +kernel
theorem dX11_meeting_122 : decode cX11_meeting 122 = .ok (.getfield 47, 3) := by decide +kernel
theorem dX11_meeting_125 : decode cX11_meeting 125 = .ok (.getfield 295, 3) := by decide +kernel
theorem dX11_meeting_128 : decode cX11_meeting 128 = .ok (.iload_n 2, 1) := by decide +kernel
theorem dX11_meeting_129 : decode cX11_meeting 129 = .ok (.iaload, 1) := by decide +kernel
theorem dX11_meeting_130 : decode cX11_meeting 130 = .ok (.aload_n 0, 1) := by decide +kernel
theorem dX11_meeting_131 : decode cX11_meeting 131 = .ok (.getfield 47, 3) := by decide +kernel
theorem dX11_meeting_134 : decode cX11_meeting 134 = .ok (.getfield 295, 3) := by decide +kernel
theorem dX11_meeting_137 : decode cX11_meeting 137 = .ok (.iload_n 3, 1) := by decide +kernel
theorem dX11_meeting_138 : decode cX11_meeting 138 = .ok (.iaload, 1) := by decide +kernel
theorem dX11_meeting_139 : decode cX11_meeting 139 = .ok (.if_icmp .ne 9, 3) := by decide +kernel
theorem dX11_meeting_142 : decode cX11_meeting 142 = .ok (.iinc 4 1, 3) := by decide +kernel
theorem dX11_meeting_145 : decode cX11_meeting 145 = .ok (.goto 6, 3) := by decide +kernel
theorem dX11_meeting_148 : decode cX11_meeting 148 = .ok (.iinc 5 1, 3) := by decide +kernel
theorem dX11_meeting_151 : decode cX11_meeting 151 = .ok (.iinc 6 1, 3) := by decide +kernel
theorem dX11_meeting_154 : decode cX11_meeting 154 = .ok (.goto (-83), 3) := by decide +kernel
theorem dX11_meeting_157 : decode cX11_meeting 157 = .ok (.iload 4, 2) := by decide +kernel
theorem dX11_meeting_159 : decode cX11_meeting 159 = .ok (.ifCond .ne 14, 3) := by decide +kernel
theorem dX11_meeting_162 : decode cX11_meeting 162 = .ok (.iload 5, 2) := by decide +kernel
theorem dX11_meeting_164 : decode cX11_meeting 164 = .ok (.ifCond .ne 7, 3) := by decide +kernel
theorem dX11_meeting_167 : decode cX11_meeting 167 = .ok (.iconst (-1), 1) := by decide +kernel
theorem dX11_meeting_168 : decode cX11_meeting 168 = .ok (.goto 4, 3) := by decide +kernel
theorem dX11_meeting_171 : decode cX11_meeting 171 = .ok (.iconst 0, 1) := by decide +kernel
theorem dX11_meeting_172 : decode cX11_meeting 172 = .ok (.ireturn, 1) := by decide +kernel
theorem dX11_meeting_173 : decode cX11_meeting 173 = .ok (.iload 5, 2) := by decide +kernel
theorem dX11_meeting_175 : decode cX11_meeting 175 = .ok (.ifCond .ne 7, 3) := by decide +kernel
theorem dX11_meeting_178 : decode cX11_meeting 178 = .ok (.iconst 2, 1) := by decide +kernel
theorem dX11_meeting_179 : decode cX11_meeting 179 = .ok (.goto 4, 3) := by decide +kernel
theorem dX11_meeting_182 : decode cX11_meeting 182 = .ok (.iconst 1, 1) := by decide +kernel
theorem dX11_meeting_183 : decode cX11_meeting 183 = .ok (.ireturn, 1) := by decide +kernel
set_option maxRecDepth 100000 in
def F_X11_meeting_b33  (h : Hp) : Option ((Int32 ⊕ Nat) × Hp × Nat × Nat) :=
  some (.inr 2, h, 1, 6)
set_option maxHeartbeats 4000000 in
set_option maxRecDepth 100000 in
theorem r_X11_meeting_b33  (h : Hp) {x : Cx} {r : (Int32 ⊕ Nat)} {hz : Hp} {c9 s9 : Nat} (e : F_X11_meeting_b33  h = some (r, hz, c9, s9)) (hF : FinO M_X11_meeting x (some .int) r hz) : V M_X11_meeting x 8 33 [] [] h c9 s9 := by
  unfold F_X11_meeting_b33 at e
  cases e
  exact V_throwW (pc := 33) (j := 37) hF th_X11_113_117 rfl (by decide) (Nat.le_of_ble_eq_true rfl) dX11_meeting_33 dX11_meeting_36 dX11_meeting_37 dX11_meeting_40 dX11_meeting_43
set_option maxRecDepth 100000 in
def F_X11_meeting_b151 (v0 : Nat) (v1 : Int32) (v2 : Int32) (v3 : Int32) (v4 : Int32) (v5 : Int32) (v6 : Int32) (h : Hp) : Option ((Int32 × Int32 × Int32 × Hp) ⊕ (Int32 × Int32 × Hp)) :=
  some (.inl (v4, v5, v6 + (1 : Int32), h))
set_option maxHeartbeats 4000000 in
set_option maxRecDepth 100000 in
theorem r_X11_meeting_b151 (v0 : Nat) (v1 : Int32) (v2 : Int32) (v3 : Int32) (v4 : Int32) (v5 : Int32) (v6 : Int32) (h : Hp) {bc bs : Nat} {x : Cx} {o : ((Int32 × Int32 × Int32 × Hp) ⊕ (Int32 × Int32 × Hp))} (e : F_X11_meeting_b151 v0 v1 v2 v3 v4 v5 v6 h = some o) (kI : ∀ z, o = .inl z → V M_X11_meeting x 8 71 [(0, .ref v0), (1, .int v1), (2, .int v2), (3, .int v3), (4, .int z.1), (5, .int z.2.1), (6, .int z.2.2.1)] [] z.2.2.2 bc bs) (kE157 : ∀ z : Int32 × Int32 × Hp, o = .inr z → V M_X11_meeting x 8 157 [(4, .int z.1), (5, .int z.2.1)] [] z.2.2 bc bs) : V M_X11_meeting x 8 151 [(0, .ref v0), (1, .int v1), (2, .int v2), (3, .int v3), (4, .int v4), (5, .int v5), (6, .int v6)] [] h bc bs := by
  unfold F_X11_meeting_b151 at e
  refine V_iinc (pc := 151) (i := 6) (u := v6 + (1 : Int32)) (lv' := [(6, .int (v6 + (1 : Int32))), (0, .ref v0), (1, .int v1), (2, .int v2), (3, .int v3), (4, .int v4), (5, .int v5)]) dX11_meeting_151 rfl rfl (by decide) rfl ?_
  refine V_goto (pc := 154) (tgt := 71) dX11_meeting_154 (by decide) ?_
  cases e
  exact V_pick [1, 2, 3, 4, 5, 6, 0] rfl (kI (v4, v5, v6 + (1 : Int32), h) rfl)
set_option maxRecDepth 100000 in
def F_X11_meeting_l71 (v0 : Nat) (v1 : Int32) (v2 : Int32) (v3 : Int32) (v4 : Int32) (v5 : Int32) (v6 : Int32) (h : Hp) : Option ((Int32 × Int32 × Int32 × Hp) ⊕ (Int32 × Int32 × Hp)) :=
  (if (32768 : Int32) ≤ v6 then some (.inr (v4, v5, h)) else gd (decide (kd h v0 = 10)) <| ob (zR h v0 5) fun q29 => ob (zR h v0 1) fun q31 => ob2 (F_X9_advance q29 q31 h) fun r34 h35 => gd (decide (kd h q29 = 8)) <| (if r34 = 0 then some (.inr (v4, v5, h35)) else gd (decide (kd h35 v0 = 10)) <| ob (zR h35 v0 5) fun q38 => ob (zR h35 v0 1) fun q40 => gd (decide (kd h35 q40 = 2)) <| ob (zR h35 q40 18) fun q43 => gd (decide (kd h35 q43 = 13)) <| gd (ix v1 (zl h35 q43)) <| ob (zR h35 v0 1) fun q47 => gd (decide (kd h35 q47 = 2)) <| ob (zR h35 q47 19) fun q50 => gd (decide (kd h35 q50 = 13)) <| gd (ix v1 (zl h35 q50)) <| ob (F_X9_isAt q38 (zI h35 q43 (v1).toNatClampNeg) (zI h35 q50 (v1).toNatClampNeg) h35) fun r55 => gd (decide (kd h35 q38 = 8)) <| (if r55 = 0 then F_X11_meeting_b151 v0 v1 v2 v3 v4 v5 v6 h35 else ob (zR h35 v0 5) fun q57 => gd (decide (kd h35 q57 = 8)) <| ob (zR h35 q57 0) fun q60 => gd (decide (kd h35 q60 = 13)) <| gd (ix v2 (zl h35 q60)) <| ob (zR h35 v0 5) fun q64 => gd (decide (kd h35 q64 = 8)) <| ob (zR h35 q64 0) fun q67 => gd (decide (kd h35 q67 = 13)) <| gd (ix v3 (zl h35 q67)) <| (if (zI h35 q60 (v2).toNatClampNeg) = (zI h35 q67 (v3).toNatClampNeg) then F_X11_meeting_b151 v0 v1 v2 v3 (v4 + (1 : Int32)) v5 v6 h35 else F_X11_meeting_b151 v0 v1 v2 v3 v4 (v5 + (1 : Int32)) v6 h35))))
set_option maxHeartbeats 4000000 in
set_option maxRecDepth 100000 in
theorem r_X11_meeting_l71 (v0 : Nat) (v1 : Int32) (v2 : Int32) (v3 : Int32) (v4 : Int32) (v5 : Int32) (v6 : Int32) (h : Hp) {bc bs : Nat} {x : Cx} {o : ((Int32 × Int32 × Int32 × Hp) ⊕ (Int32 × Int32 × Hp))} (e : F_X11_meeting_l71 v0 v1 v2 v3 v4 v5 v6 h = some o) (kI : ∀ z, o = .inl z → V M_X11_meeting x 8 71 [(0, .ref v0), (1, .int v1), (2, .int v2), (3, .int v3), (4, .int z.1), (5, .int z.2.1), (6, .int z.2.2.1)] [] z.2.2.2 bc bs) (kE157 : ∀ z : Int32 × Int32 × Hp, o = .inr z → V M_X11_meeting x 8 157 [(4, .int z.1), (5, .int z.2.1)] [] z.2.2 bc bs) : V M_X11_meeting x 8 71 [(0, .ref v0), (1, .int v1), (2, .int v2), (3, .int v3), (4, .int v4), (5, .int v5), (6, .int v6)] [] h bc bs := by
  unfold F_X11_meeting_l71 at e
  refine V_iload (pc := 71) (i := 6) dX11_meeting_71 rfl ?_
  refine V_ldcw (pc := 73) (v := (32768 : Int32)) dX11_meeting_73 (wk_X11_286) ?_
  refine V_icmp_ge (pc := 76) (tgt := 157) dX11_meeting_76 (by decide) (fun c74 => ?_) (fun c74 => ?_)
  · rw [if_pos c74] at e
    cases e
    exact V_pick [4, 5] rfl (kE157 (v4, v5, h) rfl)
  · rw [if_neg c74] at e
    refine V_pick [0, 1, 2, 3, 4, 5, 6] rfl ?_
    refine V_aload_n (pc := 79) (i := 0) dX11_meeting_79 rfl rfl ?_
    replace e := gd_some e
    obtain ⟨g28, e⟩ := e
    replace e := ob_some e
    obtain ⟨q29, g30, e⟩ := e
    refine V_getR (pc := 80) (ci := 10) (k := 5) (b := q29) dX11_meeting_80 fl_X11_47 rfl (of_decide_eq_true g28) g30 ?_
    refine V_aload_n (pc := 83) (i := 0) dX11_meeting_83 rfl rfl ?_
    replace e := ob_some e
    obtain ⟨q31, g32, e⟩ := e
    refine V_getR (pc := 84) (ci := 10) (k := 1) (b := q31) dX11_meeting_84 fl_X11_19 rfl (of_decide_eq_true g28) g32 ?_
    replace e := ob2_some e
    obtain ⟨r34, h35, g33, e⟩ := e
    replace e := gd_some e
    obtain ⟨g36, e⟩ := e
    refine V_callV (pc := 87) (bc := bc) (bs := bs) (mc := 0) (ms := 0) (st := []) (As := [.ref q31]) (a := q29) (h' := h35) (r := some (.int r34)) dX11_meeting_87 ml_X11_287 (ci := 8) rfl (of_decide_eq_true g36) rfl rfl (Nat.le_of_ble_eq_true rfl) (d' := 1) (by decide) (c_X9_advance (l := x.2.1) q29 q31 h g33) ?_
    refine V_if_eq (pc := 90) (tgt := 157) dX11_meeting_90 (by decide) (fun c73 => ?_) (fun c73 => ?_)
    · rw [if_pos c73] at e
      cases e
      exact V_pick [4, 5] rfl (kE157 (v4, v5, h35) rfl)
    · rw [if_neg c73] at e
      refine V_pick [0, 1, 2, 3, 4, 5, 6] rfl ?_
      refine V_aload_n (pc := 93) (i := 0) dX11_meeting_93 rfl rfl ?_
      replace e := gd_some e
      obtain ⟨g37, e⟩ := e
      replace e := ob_some e
      obtain ⟨q38, g39, e⟩ := e
      refine V_getR (pc := 94) (ci := 10) (k := 5) (b := q38) dX11_meeting_94 fl_X11_47 rfl (of_decide_eq_true g37) g39 ?_
      refine V_aload_n (pc := 97) (i := 0) dX11_meeting_97 rfl rfl ?_
      replace e := ob_some e
      obtain ⟨q40, g41, e⟩ := e
      refine V_getR (pc := 98) (ci := 10) (k := 1) (b := q40) dX11_meeting_98 fl_X11_19 rfl (of_decide_eq_true g37) g41 ?_
      replace e := gd_some e
      obtain ⟨g42, e⟩ := e
      replace e := ob_some e
      obtain ⟨q43, g44, e⟩ := e
      refine V_getR (pc := 101) (ci := 2) (k := 18) (b := q43) dX11_meeting_101 fl_X11_326 rfl (of_decide_eq_true g42) g44 ?_
      refine V_iload_n (pc := 104) (i := 1) dX11_meeting_104 rfl rfl ?_
      replace e := gd_some e
      obtain ⟨g45, e⟩ := e
      replace e := gd_some e
      obtain ⟨g46, e⟩ := e
      refine V_iald (pc := 105) dX11_meeting_105 (of_decide_eq_true g45) (ix_in g46) ?_
      refine V_aload_n (pc := 106) (i := 0) dX11_meeting_106 rfl rfl ?_
      replace e := ob_some e
      obtain ⟨q47, g48, e⟩ := e
      refine V_getR (pc := 107) (ci := 10) (k := 1) (b := q47) dX11_meeting_107 fl_X11_19 rfl (of_decide_eq_true g37) g48 ?_
      replace e := gd_some e
      obtain ⟨g49, e⟩ := e
      replace e := ob_some e
      obtain ⟨q50, g51, e⟩ := e
      refine V_getR (pc := 110) (ci := 2) (k := 19) (b := q50) dX11_meeting_110 fl_X11_329 rfl (of_decide_eq_true g49) g51 ?_
      refine V_iload_n (pc := 113) (i := 1) dX11_meeting_113 rfl rfl ?_
      replace e := gd_some e
      obtain ⟨g52, e⟩ := e
      replace e := gd_some e
      obtain ⟨g53, e⟩ := e
      refine V_iald (pc := 114) dX11_meeting_114 (of_decide_eq_true g52) (ix_in g53) ?_
      replace e := ob_some e
      obtain ⟨r55, g54, e⟩ := e
      replace e := gd_some e
      obtain ⟨g56, e⟩ := e
      refine V_callV (pc := 115) (bc := bc) (bs := bs) (mc := 0) (ms := 0) (st := []) (As := [.int (zI h35 q43 (v1).toNatClampNeg), .int (zI h35 q50 (v1).toNatClampNeg)]) (a := q38) (h' := h35) (r := some (.int r55)) dX11_meeting_115 ml_X11_337 (ci := 8) rfl (of_decide_eq_true g56) rfl rfl (Nat.le_of_ble_eq_true rfl) (d' := 0) (by decide) (c_X9_isAt (l := x.2.1) q38 (zI h35 q43 (v1).toNatClampNeg) (zI h35 q50 (v1).toNatClampNeg) h35 g54) ?_
      refine V_if_eq (pc := 118) (tgt := 151) dX11_meeting_118 (by decide) (fun c72 => ?_) (fun c72 => ?_)
      · rw [if_pos c72] at e
        exact V_pick [0, 1, 2, 3, 4, 5, 6] rfl (r_X11_meeting_b151 v0 v1 v2 v3 v4 v5 v6 h35 e kI kE157)
      · rw [if_neg c72] at e
        refine V_pick [0, 1, 2, 3, 4, 5, 6] rfl ?_
        refine V_aload_n (pc := 121) (i := 0) dX11_meeting_121 rfl rfl ?_
        replace e := ob_some e
        obtain ⟨q57, g58, e⟩ := e
        refine V_getR (pc := 122) (ci := 10) (k := 5) (b := q57) dX11_meeting_122 fl_X11_47 rfl (of_decide_eq_true g37) g58 ?_
        replace e := gd_some e
        obtain ⟨g59, e⟩ := e
        replace e := ob_some e
        obtain ⟨q60, g61, e⟩ := e
        refine V_getR (pc := 125) (ci := 8) (k := 0) (b := q60) dX11_meeting_125 fl_X11_295 rfl (of_decide_eq_true g59) g61 ?_
        refine V_iload_n (pc := 128) (i := 2) dX11_meeting_128 rfl rfl ?_
        replace e := gd_some e
        obtain ⟨g62, e⟩ := e
        replace e := gd_some e
        obtain ⟨g63, e⟩ := e
        refine V_iald (pc := 129) dX11_meeting_129 (of_decide_eq_true g62) (ix_in g63) ?_
        refine V_aload_n (pc := 130) (i := 0) dX11_meeting_130 rfl rfl ?_
        replace e := ob_some e
        obtain ⟨q64, g65, e⟩ := e
        refine V_getR (pc := 131) (ci := 10) (k := 5) (b := q64) dX11_meeting_131 fl_X11_47 rfl (of_decide_eq_true g37) g65 ?_
        replace e := gd_some e
        obtain ⟨g66, e⟩ := e
        replace e := ob_some e
        obtain ⟨q67, g68, e⟩ := e
        refine V_getR (pc := 134) (ci := 8) (k := 0) (b := q67) dX11_meeting_134 fl_X11_295 rfl (of_decide_eq_true g66) g68 ?_
        refine V_iload_n (pc := 137) (i := 3) dX11_meeting_137 rfl rfl ?_
        replace e := gd_some e
        obtain ⟨g69, e⟩ := e
        replace e := gd_some e
        obtain ⟨g70, e⟩ := e
        refine V_iald (pc := 138) dX11_meeting_138 (of_decide_eq_true g69) (ix_in g70) ?_
        refine V_icmp_ne (pc := 139) (tgt := 148) dX11_meeting_139 (by decide) (fun c71 => ?_) (fun c71 => ?_)
        · rw [if_neg c71] at e
          refine V_pick [0, 1, 2, 3, 4, 5, 6] rfl ?_
          refine V_iinc (pc := 148) (i := 5) (u := v5 + (1 : Int32)) (lv' := [(5, .int (v5 + (1 : Int32))), (0, .ref v0), (1, .int v1), (2, .int v2), (3, .int v3), (4, .int v4), (6, .int v6)]) dX11_meeting_148 rfl rfl (by decide) rfl ?_
          exact V_pick [1, 2, 3, 4, 5, 0, 6] rfl (r_X11_meeting_b151 v0 v1 v2 v3 v4 (v5 + (1 : Int32)) v6 h35 e kI kE157)
        · rw [if_pos c71] at e
          refine V_pick [0, 1, 2, 3, 4, 5, 6] rfl ?_
          refine V_iinc (pc := 142) (i := 4) (u := v4 + (1 : Int32)) (lv' := [(4, .int (v4 + (1 : Int32))), (0, .ref v0), (1, .int v1), (2, .int v2), (3, .int v3), (5, .int v5), (6, .int v6)]) dX11_meeting_142 rfl rfl (by decide) rfl ?_
          refine V_goto (pc := 145) (tgt := 151) dX11_meeting_145 (by decide) ?_
          exact V_pick [1, 2, 3, 4, 0, 5, 6] rfl (r_X11_meeting_b151 v0 v1 v2 v3 (v4 + (1 : Int32)) v5 v6 h35 e kI kE157)
set_option maxRecDepth 100000 in
def F_X11_meeting_b183 (t0 : Int32) (h : Hp) : Option ((Int32 ⊕ Nat) × Hp × Nat × Nat) :=
  some (.inl t0, h, 0, 0)
set_option maxHeartbeats 4000000 in
set_option maxRecDepth 100000 in
theorem r_X11_meeting_b183 (t0 : Int32) (h : Hp) {x : Cx} {r : (Int32 ⊕ Nat)} {hz : Hp} {c9 s9 : Nat} (e : F_X11_meeting_b183 t0 h = some (r, hz, c9, s9)) (hF : FinO M_X11_meeting x (some .int) r hz) : V M_X11_meeting x 8 183 [] [.int t0] h c9 s9 := by
  unfold F_X11_meeting_b183 at e
  cases e
  exact V_iret (pc := 183) dX11_meeting_183 hF
set_option maxRecDepth 100000 in
def F_X11_meeting_b172 (t0 : Int32) (h : Hp) : Option ((Int32 ⊕ Nat) × Hp × Nat × Nat) :=
  some (.inl t0, h, 0, 0)
set_option maxHeartbeats 4000000 in
set_option maxRecDepth 100000 in
theorem r_X11_meeting_b172 (t0 : Int32) (h : Hp) {x : Cx} {r : (Int32 ⊕ Nat)} {hz : Hp} {c9 s9 : Nat} (e : F_X11_meeting_b172 t0 h = some (r, hz, c9, s9)) (hF : FinO M_X11_meeting x (some .int) r hz) : V M_X11_meeting x 8 172 [] [.int t0] h c9 s9 := by
  unfold F_X11_meeting_b172 at e
  cases e
  exact V_iret (pc := 172) dX11_meeting_172 hF
set_option maxRecDepth 100000 in
def F_X11_meeting_b157 (v4 : Int32) (v5 : Int32) (h : Hp) : Option ((Int32 ⊕ Nat) × Hp × Nat × Nat) :=
  (if v4 = 0 then (if v5 = 0 then F_X11_meeting_b172 (-1 : Int32) h else F_X11_meeting_b172 (0 : Int32) h) else (if v5 = 0 then F_X11_meeting_b183 (2 : Int32) h else F_X11_meeting_b183 (1 : Int32) h))
set_option maxHeartbeats 4000000 in
set_option maxRecDepth 100000 in
theorem r_X11_meeting_b157 (v4 : Int32) (v5 : Int32) (h : Hp) {x : Cx} {r : (Int32 ⊕ Nat)} {hz : Hp} {c9 s9 : Nat} (e : F_X11_meeting_b157 v4 v5 h = some (r, hz, c9, s9)) (hF : FinO M_X11_meeting x (some .int) r hz) : V M_X11_meeting x 8 157 [(4, .int v4), (5, .int v5)] [] h c9 s9 := by
  unfold F_X11_meeting_b157 at e
  refine V_iload (pc := 157) (i := 4) dX11_meeting_157 rfl ?_
  refine V_if_ne (pc := 159) (tgt := 173) dX11_meeting_159 (by decide) (fun c80 => ?_) (fun c80 => ?_)
  · rw [if_neg c80] at e
    refine V_pick [1] rfl ?_
    refine V_iload (pc := 173) (i := 5) dX11_meeting_173 rfl ?_
    refine V_if_ne (pc := 175) (tgt := 182) dX11_meeting_175 (by decide) (fun c78 => ?_) (fun c78 => ?_)
    · rw [if_neg c78] at e
      refine V_pick [] rfl ?_
      refine V_iconst (pc := 182) (v := (1 : Int32)) dX11_meeting_182 (by decide) ?_
      exact V_pick [] rfl (r_X11_meeting_b183 (1 : Int32) h e hF)
    · rw [if_pos c78] at e
      refine V_pick [] rfl ?_
      refine V_iconst (pc := 178) (v := (2 : Int32)) dX11_meeting_178 (by decide) ?_
      refine V_goto (pc := 179) (tgt := 183) dX11_meeting_179 (by decide) ?_
      exact V_pick [] rfl (r_X11_meeting_b183 (2 : Int32) h e hF)
  · rw [if_pos c80] at e
    refine V_pick [1] rfl ?_
    refine V_iload (pc := 162) (i := 5) dX11_meeting_162 rfl ?_
    refine V_if_ne (pc := 164) (tgt := 171) dX11_meeting_164 (by decide) (fun c79 => ?_) (fun c79 => ?_)
    · rw [if_neg c79] at e
      refine V_pick [] rfl ?_
      refine V_iconst (pc := 171) (v := (0 : Int32)) dX11_meeting_171 (by decide) ?_
      exact V_pick [] rfl (r_X11_meeting_b172 (0 : Int32) h e hF)
    · rw [if_pos c79] at e
      refine V_pick [] rfl ?_
      refine V_iconst (pc := 167) (v := (-1 : Int32)) dX11_meeting_167 (by decide) ?_
      refine V_goto (pc := 168) (tgt := 172) dX11_meeting_168 (by decide) ?_
      exact V_pick [] rfl (r_X11_meeting_b172 (-1 : Int32) h e hF)
set_option maxRecDepth 100000 in
def F_X11_meeting_b0 (v0 : Nat) (v1 : Int32) (v2 : Int32) (v3 : Int32) (h : Hp) : Option ((Int32 ⊕ Nat) × Hp × Nat × Nat) :=
  gd (decide (kd h v0 = 10)) <| ob (zR h v0 1) fun q2 => ob (F_X2_hasReading q2 v1 h) fun r5 => gd (decide (kd h q2 = 2)) <| (if r5 = 0 then F_X11_meeting_b33 h else ob (zR h v0 1) fun q7 => ob (F_X2_hasGuest q7 v2 h) fun r10 => gd (decide (kd h q7 = 2)) <| (if r10 = 0 then F_X11_meeting_b33 h else ob (zR h v0 1) fun q12 => ob (F_X2_hasGuest q12 v3 h) fun r15 => gd (decide (kd h q12 = 2)) <| (if r15 = 0 then F_X11_meeting_b33 h else ob (zR h v0 5) fun q17 => ob (zR h v0 1) fun q19 => ob (zR h v0 1) fun q21 => gd (decide (kd h q21 = 2)) <| ob2 (F_X9_start q17 q19 (zI h q21 11) h) fun _ h26 => gd (decide (kd h q17 = 8)) <| ob (iter (fun z : Int32 × Int32 × Int32 × Hp => F_X11_meeting_l71 v0 v1 v2 v3 z.1 z.2.1 z.2.2.1 z.2.2.2) FU ((0 : Int32), (0 : Int32), (0 : Int32), h26)) (fun z => un3 z fun w75 w76 h77 => F_X11_meeting_b157 w75 w76 h77))))
set_option maxHeartbeats 4000000 in
set_option maxRecDepth 100000 in
theorem r_X11_meeting_b0 (v0 : Nat) (v1 : Int32) (v2 : Int32) (v3 : Int32) (h : Hp) {x : Cx} {r : (Int32 ⊕ Nat)} {hz : Hp} {c9 s9 : Nat} (e : F_X11_meeting_b0 v0 v1 v2 v3 h = some (r, hz, c9, s9)) (hF : FinO M_X11_meeting x (some .int) r hz) : V M_X11_meeting x 8 0 [(0, .ref v0), (1, .int v1), (2, .int v2), (3, .int v3)] [] h c9 s9 := by
  unfold F_X11_meeting_b0 at e
  refine V_aload_n (pc := 0) (i := 0) dX11_meeting_0 rfl rfl ?_
  replace e := gd_some e
  obtain ⟨g1, e⟩ := e
  replace e := ob_some e
  obtain ⟨q2, g3, e⟩ := e
  refine V_getR (pc := 1) (ci := 10) (k := 1) (b := q2) dX11_meeting_1 fl_X11_19 rfl (of_decide_eq_true g1) g3 ?_
  refine V_iload_n (pc := 4) (i := 1) dX11_meeting_4 rfl rfl ?_
  replace e := ob_some e
  obtain ⟨r5, g4, e⟩ := e
  replace e := gd_some e
  obtain ⟨g6, e⟩ := e
  refine V_callV (pc := 5) (bc := c9) (bs := s9) (mc := 0) (ms := 0) (st := []) (As := [.int v1]) (a := q2) (h' := h) (r := some (.int r5)) dX11_meeting_5 ml_X11_332 (ci := 2) rfl (of_decide_eq_true g6) rfl rfl (Nat.le_of_ble_eq_true rfl) (d' := 0) (by decide) (c_X2_hasReading (l := x.2.1) q2 v1 h g4) ?_
  refine V_if_eq (pc := 8) (tgt := 33) dX11_meeting_8 (by decide) (fun c85 => ?_) (fun c85 => ?_)
  · rw [if_pos c85] at e
    exact V_pick [] rfl (r_X11_meeting_b33 h e hF)
  · rw [if_neg c85] at e
    refine V_pick [0, 1, 2, 3] rfl ?_
    refine V_aload_n (pc := 11) (i := 0) dX11_meeting_11 rfl rfl ?_
    replace e := ob_some e
    obtain ⟨q7, g8, e⟩ := e
    refine V_getR (pc := 12) (ci := 10) (k := 1) (b := q7) dX11_meeting_12 fl_X11_19 rfl (of_decide_eq_true g1) g8 ?_
    refine V_iload_n (pc := 15) (i := 2) dX11_meeting_15 rfl rfl ?_
    replace e := ob_some e
    obtain ⟨r10, g9, e⟩ := e
    replace e := gd_some e
    obtain ⟨g11, e⟩ := e
    refine V_callV (pc := 16) (bc := c9) (bs := s9) (mc := 0) (ms := 0) (st := []) (As := [.int v2]) (a := q7) (h' := h) (r := some (.int r10)) dX11_meeting_16 ml_X11_109 (ci := 2) rfl (of_decide_eq_true g11) rfl rfl (Nat.le_of_ble_eq_true rfl) (d' := 0) (by decide) (c_X2_hasGuest (l := x.2.1) q7 v2 h g9) ?_
    refine V_if_eq (pc := 19) (tgt := 33) dX11_meeting_19 (by decide) (fun c84 => ?_) (fun c84 => ?_)
    · rw [if_pos c84] at e
      exact V_pick [] rfl (r_X11_meeting_b33 h e hF)
    · rw [if_neg c84] at e
      refine V_pick [0, 1, 2, 3] rfl ?_
      refine V_aload_n (pc := 22) (i := 0) dX11_meeting_22 rfl rfl ?_
      replace e := ob_some e
      obtain ⟨q12, g13, e⟩ := e
      refine V_getR (pc := 23) (ci := 10) (k := 1) (b := q12) dX11_meeting_23 fl_X11_19 rfl (of_decide_eq_true g1) g13 ?_
      refine V_iload_n (pc := 26) (i := 3) dX11_meeting_26 rfl rfl ?_
      replace e := ob_some e
      obtain ⟨r15, g14, e⟩ := e
      replace e := gd_some e
      obtain ⟨g16, e⟩ := e
      refine V_callV (pc := 27) (bc := c9) (bs := s9) (mc := 0) (ms := 0) (st := []) (As := [.int v3]) (a := q12) (h' := h) (r := some (.int r15)) dX11_meeting_27 ml_X11_109 (ci := 2) rfl (of_decide_eq_true g16) rfl rfl (Nat.le_of_ble_eq_true rfl) (d' := 0) (by decide) (c_X2_hasGuest (l := x.2.1) q12 v3 h g14) ?_
      refine V_if_ne (pc := 30) (tgt := 44) dX11_meeting_30 (by decide) (fun c83 => ?_) (fun c83 => ?_)
      · rw [if_neg c83] at e
        refine V_pick [0, 1, 2, 3] rfl ?_
        refine V_iconst (pc := 44) (v := (0 : Int32)) dX11_meeting_44 (by decide) ?_
        refine V_istore (pc := 45) (i := 4) (lv' := [(4, .int (0 : Int32)), (0, .ref v0), (1, .int v1), (2, .int v2), (3, .int v3)]) dX11_meeting_45 (by decide) rfl ?_
        refine V_iconst (pc := 47) (v := (0 : Int32)) dX11_meeting_47 (by decide) ?_
        refine V_istore (pc := 48) (i := 5) (lv' := [(5, .int (0 : Int32)), (4, .int (0 : Int32)), (0, .ref v0), (1, .int v1), (2, .int v2), (3, .int v3)]) dX11_meeting_48 (by decide) rfl ?_
        refine V_aload_n (pc := 50) (i := 0) dX11_meeting_50 rfl rfl ?_
        replace e := ob_some e
        obtain ⟨q17, g18, e⟩ := e
        refine V_getR (pc := 51) (ci := 10) (k := 5) (b := q17) dX11_meeting_51 fl_X11_47 rfl (of_decide_eq_true g1) g18 ?_
        refine V_aload_n (pc := 54) (i := 0) dX11_meeting_54 rfl rfl ?_
        replace e := ob_some e
        obtain ⟨q19, g20, e⟩ := e
        refine V_getR (pc := 55) (ci := 10) (k := 1) (b := q19) dX11_meeting_55 fl_X11_19 rfl (of_decide_eq_true g1) g20 ?_
        refine V_aload_n (pc := 58) (i := 0) dX11_meeting_58 rfl rfl ?_
        replace e := ob_some e
        obtain ⟨q21, g22, e⟩ := e
        refine V_getR (pc := 59) (ci := 10) (k := 1) (b := q21) dX11_meeting_59 fl_X11_19 rfl (of_decide_eq_true g1) g22 ?_
        replace e := gd_some e
        obtain ⟨g23, e⟩ := e
        refine V_getI (pc := 62) (ci := 2) (k := 11) dX11_meeting_62 fl_X11_279 rfl (of_decide_eq_true g23) ?_
        replace e := ob2_some e
        obtain ⟨r25, h26, g24, e⟩ := e
        replace e := gd_some e
        obtain ⟨g27, e⟩ := e
        refine V_callV (pc := 65) (bc := c9) (bs := s9) (mc := 0) (ms := 0) (st := []) (As := [.ref q19, .int (zI h q21 11)]) (a := q17) (h' := h26) (r := none) dX11_meeting_65 ml_X11_282 (ci := 8) rfl (of_decide_eq_true g27) rfl rfl (Nat.le_of_ble_eq_true rfl) (d' := 1) (by decide) (c_X9_start (l := x.2.1) q17 q19 (zI h q21 11) h g24) ?_
        refine V_iconst (pc := 68) (v := (0 : Int32)) dX11_meeting_68 (by decide) ?_
        refine V_istore (pc := 69) (i := 6) (lv' := [(6, .int (0 : Int32)), (5, .int (0 : Int32)), (4, .int (0 : Int32)), (0, .ref v0), (1, .int v1), (2, .int v2), (3, .int v3)]) dX11_meeting_69 (by decide) rfl ?_
        refine V_pick [3, 4, 5, 6, 2, 1, 0] rfl ?_
        replace e := ob_some e
        obtain ⟨y81, g82, e⟩ := e
        refine iter_V (P := fun z : Int32 × Int32 × Int32 × Hp => V M_X11_meeting x 8 71 [(0, .ref v0), (1, .int v1), (2, .int v2), (3, .int v3), (4, .int z.1), (5, .int z.2.1), (6, .int z.2.2.1)] [] z.2.2.2 c9 s9) (E := fun z : Int32 × Int32 × Hp => V M_X11_meeting x 8 157 [(4, .int z.1), (5, .int z.2.1)] [] z.2.2 c9 s9) (fun z o e9 k1 k2 => r_X11_meeting_l71 v0 v1 v2 v3 z.1 z.2.1 z.2.2.1 z.2.2.2 e9 (fun z hz9 => k1 z hz9) (fun z hz9 => k2 _ hz9)) _ _ _ g82 ?_
        clear g82
        obtain ⟨w75, w76, h77⟩ := y81
        replace e : (F_X11_meeting_b157 w75 w76 h77) = some (r, hz, c9, s9) := e
        show V M_X11_meeting x 8 157 [(4, .int w75), (5, .int w76)] [] h77 c9 s9
        exact V_pick [0, 1] rfl (r_X11_meeting_b157 w75 w76 h77 e hF)
      · rw [if_pos c83] at e
        exact V_pick [] rfl (r_X11_meeting_b33 h e hF)
def F_X11_meeting (v0 : Nat) (v1 : Int32) (v2 : Int32) (v3 : Int32) (h : Hp) : Option ((Int32 ⊕ Nat) × Hp × Nat × Nat) := F_X11_meeting_b0 v0 v1 v2 v3 h
theorem c_X11_meeting {l : Launch} (v0 : Nat) (v1 : Int32) (v2 : Int32) (v3 : Int32) (h : Hp) {r : Int32} {hz : Hp} {c9 s9 : Nat} (e : F_X11_meeting v0 v1 v2 v3 h = some (.inl r, hz, c9, s9)) : Ct l yX11_meeting M_X11_meeting (some .int) 8 [.ref v0, .int v1, .int v2, .int v3] h c9 s9 (some (.int r)) hz :=
  Ct_of rfl rfl (fun q => by cases q) (Nat.le_of_ble_eq_true rfl) (fun x _ hF => V_pick [0, 1, 2, 3] rfl (r_X11_meeting_b0 v0 v1 v2 v3 h e hF))
theorem cX_X11_meeting {l : Launch} (hst : l.stackTraces = false) (v0 : Nat) (v1 : Int32) (v2 : Int32) (v3 : Int32) (h : Hp) {k : Nat} {hz : Hp} {c9 s9 : Nat} (e : F_X11_meeting v0 v1 v2 v3 h = some (.inr k, hz, c9, s9)) : CtX l yX11_meeting M_X11_meeting (some .int) 8 [.ref v0, .int v1, .int v2, .int v3] h c9 s9 (exN k) hz :=
  CtX_of hst rfl rfl (fun q => by cases q) (Nat.le_of_ble_eq_true rfl) (fun x _ hF => V_pick [0, 1, 2, 3] rfl (r_X11_meeting_b0 v0 v1 v2 v3 h e hF))
theorem dX11_back_0 : decode cX11_back 0 = .ok (.aload_n 0, 1) := by decide +kernel
theorem dX11_back_1 : decode cX11_back 1 = .ok (.getfield 72, 3) := by decide +kernel
theorem dX11_back_4 : decode cX11_back 4 = .ok (.ifnonnull 5, 3) := by decide +kernel
theorem dX11_back_7 : decode cX11_back 7 = .ok (.iconst 0, 1) := by decide +kernel
theorem dX11_back_8 : decode cX11_back 8 = .ok (.ireturn, 1) := by decide +kernel
theorem dX11_back_9 : decode cX11_back 9 = .ok (.aload_n 0, 1) := by decide +kernel
theorem dX11_back_10 : decode cX11_back 10 = .ok (.getfield 19, 3) := by decide +kernel
theorem dX11_back_13 : decode cX11_back 13 = .ok (.aload_n 0, 1) := by decide +kernel
theorem dX11_back_14 : decode cX11_back 14 = .ok (.getfield 72, 3) := by decide +kernel
theorem dX11_back_17 : decode cX11_back 17 = .ok (.invokevirtual 372, 3) := by decide +kernel
theorem dX11_back_20 : decode cX11_back 20 = .ok (.iconst 1, 1) := by decide +kernel
theorem dX11_back_21 : decode cX11_back 21 = .ok (.ireturn, 1) := by decide +kernel
theorem nz_n {α : Type} {x : Option Nat} (h : x = none) {f g : Option α} : nz x f g = f := by rw [h]; rfl
theorem nz_s {α : Type} {x : Option Nat} {q : Nat} (h : x = some q) {f g : Option α} : nz x f g = g := by rw [h]; rfl
set_option maxRecDepth 100000 in
def F_X11_back_b0 (v0 : Nat) (h : Hp) : Option (Int32 × Hp) :=
  gd (decide (kd h v0 = 10)) <| nz (zR h v0 9) (some ((0 : Int32), h)) (ob (zR h v0 1) fun q4 => ob (zR h v0 9) fun q6 => ob2 (F_X2_copyFrom q4 q6 h) fun _ h10 => gd (decide (kd h q4 = 2)) <| some ((1 : Int32), h10))
set_option maxHeartbeats 4000000 in
set_option maxRecDepth 100000 in
theorem r_X11_back_b0 (v0 : Nat) (h : Hp) {x : Cx} {r : Int32} {hz : Hp} (e : F_X11_back_b0 v0 h = some (r, hz)) (hF : Fin9 M_X11_back x (some .boolean) (some (.int r)) hz) : V M_X11_back x 3 0 [(0, .ref v0)] [] h 0 0 := by
  unfold F_X11_back_b0 at e
  refine V_aload_n (pc := 0) (i := 0) dX11_back_0 rfl rfl ?_
  obtain ⟨g1, e⟩ := gd_some e
  cases g3 : zR h v0 9 with
  | none =>
    rw [nz_n g3] at e
    replace e : (some ((0 : Int32), h)) = some (r, hz) := e
    refine V_getRN (pc := 1) (ci := 10) (k := 9) dX11_back_1 fl_X11_72 rfl (of_decide_eq_true g1) g3 ?_
    refine V_ifnonnullN (pc := 4) dX11_back_4 ?_
    refine V_pick [] rfl ?_
    refine V_iconst (pc := 7) (v := (0 : Int32)) dX11_back_7 (by decide) ?_
    cases e
    exact V_zret (pc := 8) dX11_back_8 rfl hF
  | some q2 =>
    rw [nz_s g3] at e
    replace e : (ob (zR h v0 1) fun q4 => ob (zR h v0 9) fun q6 => ob2 (F_X2_copyFrom q4 q6 h) fun _ h10 => gd (decide (kd h q4 = 2)) <| some ((1 : Int32), h10)) = some (r, hz) := e
    refine V_getR (pc := 1) (ci := 10) (k := 9) (b := q2) dX11_back_1 fl_X11_72 rfl (of_decide_eq_true g1) g3 ?_
    refine V_ifnonnull (pc := 4) (tgt := 9) dX11_back_4 (by decide) ?_
    refine V_pick [0] rfl ?_
    refine V_aload_n (pc := 9) (i := 0) dX11_back_9 rfl rfl ?_
    obtain ⟨q4, g5, e⟩ := ob_some e
    refine V_getR (pc := 10) (ci := 10) (k := 1) (b := q4) dX11_back_10 fl_X11_19 rfl (of_decide_eq_true g1) g5 ?_
    refine V_aload_n (pc := 13) (i := 0) dX11_back_13 rfl rfl ?_
    obtain ⟨q6, g7, e⟩ := ob_some e
    refine V_getR (pc := 14) (ci := 10) (k := 9) (b := q6) dX11_back_14 fl_X11_72 rfl (of_decide_eq_true g1) g7 ?_
    obtain ⟨r9, h10, g8, e⟩ := ob2_some e
    obtain ⟨g11, e⟩ := gd_some e
    refine V_callV (pc := 17) (bc := 0) (bs := 0) (mc := 0) (ms := 0) (st := []) (As := [.ref q6]) (a := q4) (h' := h10) (r := none) dX11_back_17 ml_X11_372 (ci := 2) rfl (of_decide_eq_true g11) rfl rfl (Nat.le_of_ble_eq_true rfl) (d' := 2) (by decide) (c_X2_copyFrom (l := x.2.1) q4 q6 h g8) ?_
    refine V_iconst (pc := 20) (v := (1 : Int32)) dX11_back_20 (by decide) ?_
    cases e
    exact V_zret (pc := 21) dX11_back_21 rfl hF
def F_X11_back (v0 : Nat) (h : Hp) : Option (Int32 × Hp) := F_X11_back_b0 v0 h
theorem c_X11_back {l : Launch} (v0 : Nat) (h : Hp) {r : Int32} {hz : Hp} (e : F_X11_back v0 h = some (r, hz)) : Ct l yX11_back M_X11_back (some .boolean) 3 [.ref v0] h 0 0 (some (.int r)) hz :=
  Ct_of rfl rfl (fun q => by cases q) (Nat.le_of_ble_eq_true rfl) (fun x _ hF => V_pick [0] rfl (r_X11_back_b0 v0 h e hF))
theorem dX1_endMinute_0 : decode cX1_endMinute 0 = .ok (.aload_n 1, 1) := by decide +kernel
theorem dX1_endMinute_1 : decode cX1_endMinute 1 = .ok (.aload_n 1, 1) := by decide +kernel
theorem dX1_endMinute_2 : decode cX1_endMinute 2 = .ok (.getfield 69, 3) := by decide +kernel
theorem dX1_endMinute_5 : decode cX1_endMinute 5 = .ok (.aload_n 1, 1) := by decide +kernel
theorem dX1_endMinute_6 : decode cX1_endMinute 6 = .ok (.getfield 72, 3) := by decide +kernel
theorem dX1_endMinute_9 : decode cX1_endMinute 9 = .ok (.invokevirtual 75, 3) := by decide +kernel
theorem dX1_endMinute_12 : decode cX1_endMinute 12 = .ok (.aload_n 1, 1) := by decide +kernel
theorem dX1_endMinute_13 : decode cX1_endMinute 13 = .ok (.aload_n 1, 1) := by decide +kernel
theorem dX1_endMinute_14 : decode cX1_endMinute 14 = .ok (.getfield 69, 3) := by decide +kernel
theorem dX1_endMinute_17 : decode cX1_endMinute 17 = .ok (.aload_n 0, 1) := by decide +kernel
theorem dX1_endMinute_18 : decode cX1_endMinute 18 = .ok (.getfield 9, 3) := by decide +kernel
theorem dX1_endMinute_21 : decode cX1_endMinute 21 = .ok (.invokevirtual 79, 3) := by decide +kernel
theorem dX1_endMinute_24 : decode cX1_endMinute 24 = .ok (.iadd, 1) := by decide +kernel
theorem dX1_endMinute_25 : decode cX1_endMinute 25 = .ok (.istore_n 3, 1) := by decide +kernel
theorem dX1_endMinute_26 : decode cX1_endMinute 26 = .ok (.aload_n 1, 1) := by decide +kernel
theorem dX1_endMinute_27 : decode cX1_endMinute 27 = .ok (.aload_n 1, 1) := by decide +kernel
theorem dX1_endMinute_28 : decode cX1_endMinute 28 = .ok (.getfield 83, 3) := by decide +kernel
theorem dX1_endMinute_31 : decode cX1_endMinute 31 = .ok (.aload_n 1, 1) := by decide +kernel
theorem dX1_endMinute_32 : decode cX1_endMinute 32 = .ok (.getfield 72, 3) := by decide +kernel
theorem dX1_endMinute_35 : decode cX1_endMinute 35 = .ok (.invokevirtual 75, 3) := by decide +kernel
theorem dX1_endMinute_38 : decode cX1_endMinute 38 = .ok (.aload_n 1, 1) := by decide +kernel
theorem dX1_endMinute_39 : decode cX1_endMinute 39 = .ok (.aload_n 1, 1) := by decide +kernel
theorem dX1_endMinute_40 : decode cX1_endMinute 40 = .ok (.getfield 83, 3) := by decide +kernel
theorem dX1_endMinute_43 : decode cX1_endMinute 43 = .ok (.aload_n 0, 1) := by decide +kernel
theorem dX1_endMinute_44 : decode cX1_endMinute 44 = .ok (.getfield 9, 3) := by decide +kernel
theorem dX1_endMinute_47 : decode cX1_endMinute 47 = .ok (.invokevirtual 79, 3) := by decide +kernel
theorem dX1_endMinute_50 : decode cX1_endMinute 50 = .ok (.iadd, 1) := by decide +kernel
theorem dX1_endMinute_51 : decode cX1_endMinute 51 = .ok (.istore 4, 2) := by decide +kernel
theorem dX1_endMinute_53 : decode cX1_endMinute 53 = .ok (.aload_n 0, 1) := by decide +kernel
theorem dX1_endMinute_54 : decode cX1_endMinute 54 = .ok (.getfield 18, 3) := by decide +kernel
theorem dX1_endMinute_57 : decode cX1_endMinute 57 = .ok (.aload_n 1, 1) := by decide +kernel
theorem dX1_endMinute_58 : decode cX1_endMinute 58 = .ok (.getfield 69, 3) := by decide +kernel
theorem dX1_endMinute_61 : decode cX1_endMinute 61 = .ok (.aload_n 1, 1) := by decide +kernel
theorem dX1_endMinute_62 : decode cX1_endMinute 62 = .ok (.getfield 83, 3) := by decide +kernel
theorem dX1_endMinute_65 : decode cX1_endMinute 65 = .ok (.iload_n 3, 1) := by decide +kernel
theorem dX1_endMinute_66 : decode cX1_endMinute 66 = .ok (.aload_n 1, 1) := by decide +kernel
theorem dX1_endMinute_67 : decode cX1_endMinute 67 = .ok (.getfield 86, 3) := by decide +kernel
theorem dX1_endMinute_70 : decode cX1_endMinute 70 = .ok (.invokestatic 89, 3) := by decide +kernel
theorem dX1_endMinute_73 : decode cX1_endMinute 73 = .ok (.aload_n 1, 1) := by decide +kernel
theorem dX1_endMinute_74 : decode cX1_endMinute 74 = .ok (.getfield 93, 3) := by decide +kernel
theorem dX1_endMinute_77 : decode cX1_endMinute 77 = .ok (.invokevirtual 96, 3) := by decide +kernel
theorem dX1_endMinute_80 : decode cX1_endMinute 80 = .ok (.istore 5, 2) := by decide +kernel
theorem dX1_endMinute_82 : decode cX1_endMinute 82 = .ok (.iload 5, 2) := by decide +kernel
theorem dX1_endMinute_84 : decode cX1_endMinute 84 = .ok (.aload_n 0, 1) := by decide +kernel
theorem dX1_endMinute_85 : decode cX1_endMinute 85 = .ok (.getfield 18, 3) := by decide +kernel
theorem dX1_endMinute_88 : decode cX1_endMinute 88 = .ok (.aload_n 1, 1) := by decide +kernel
theorem dX1_endMinute_89 : decode cX1_endMinute 89 = .ok (.getfield 83, 3) := by decide +kernel
theorem dX1_endMinute_92 : decode cX1_endMinute 92 = .ok (.aload_n 1, 1) := by decide +kernel
theorem dX1_endMinute_93 : decode cX1_endMinute 93 = .ok (.getfield 69, 3) := by decide +kernel
theorem dX1_endMinute_96 : decode cX1_endMinute 96 = .ok (.iload 4, 2) := by decide +kernel
theorem dX1_endMinute_98 : decode cX1_endMinute 98 = .ok (.aload_n 1, 1) := by decide +kernel
theorem dX1_endMinute_99 : decode cX1_endMinute 99 = .ok (.getfield 86, 3) := by decide +kernel
theorem dX1_endMinute_102 : decode cX1_endMinute 102 = .ok (.invokestatic 89, 3) := by decide +kernel
theorem dX1_endMinute_105 : decode cX1_endMinute 105 = .ok (.aload_n 1, 1) := by decide +kernel
theorem dX1_endMinute_106 : decode cX1_endMinute 106 = .ok (.getfield 93, 3) := by decide +kernel
theorem dX1_endMinute_109 : decode cX1_endMinute 109 = .ok (.invokevirtual 96, 3) := by decide +kernel
theorem dX1_endMinute_112 : decode cX1_endMinute 112 = .ok (.iadd, 1) := by decide +kernel
theorem dX1_endMinute_113 : decode cX1_endMinute 113 = .ok (.istore 5, 2) := by decide +kernel
theorem dX1_endMinute_115 : decode cX1_endMinute 115 = .ok (.aload_n 0, 1) := by decide +kernel
theorem dX1_endMinute_116 : decode cX1_endMinute 116 = .ok (.dup, 1) := by decide +kernel
theorem dX1_endMinute_117 : decode cX1_endMinute 117 = .ok (.getfield 26, 3) := by decide +kernel
theorem dX1_endMinute_120 : decode cX1_endMinute 120 = .ok (.iload 5, 2) := by decide +kernel
theorem dX1_endMinute_122 : decode cX1_endMinute 122 = .ok (.iadd, 1) := by decide +kernel
theorem dX1_endMinute_123 : decode cX1_endMinute 123 = .ok (.putfield 26, 3) := by decide +kernel
theorem dX1_endMinute_126 : decode cX1_endMinute 126 = .ok (.aload_n 0, 1) := by decide +kernel
theorem dX1_endMinute_127 : decode cX1_endMinute 127 = .ok (.getfield 22, 3) := by decide +kernel
theorem dX1_endMinute_130 : decode cX1_endMinute 130 = .ok (.iconst (-1), 1) := by decide +kernel
theorem dX1_endMinute_131 : decode cX1_endMinute 131 = .ok (.if_icmp .ne 22, 3) := by decide +kernel
theorem dX1_endMinute_134 : decode cX1_endMinute 134 = .ok (.aload_n 1, 1) := by decide +kernel
theorem dX1_endMinute_135 : decode cX1_endMinute 135 = .ok (.iload_n 3, 1) := by decide +kernel
theorem dX1_endMinute_136 : decode cX1_endMinute 136 = .ok (.iload 4, 2) := by decide +kernel
theorem dX1_endMinute_138 : decode cX1_endMinute 138 = .ok (.aload_n 0, 1) := by decide +kernel
theorem dX1_endMinute_139 : decode cX1_endMinute 139 = .ok (.getfield 18, 3) := by decide +kernel
theorem dX1_endMinute_142 : decode cX1_endMinute 142 = .ok (.invokevirtual 100, 3) := by decide +kernel
theorem dX1_endMinute_145 : decode cX1_endMinute 145 = .ok (.ifCond .ne 8, 3) := by decide +kernel
theorem dX1_endMinute_148 : decode cX1_endMinute 148 = .ok (.aload_n 0, 1) := by decide +kernel
theorem dX1_endMinute_149 : decode cX1_endMinute 149 = .ok (.iload_n 2, 1) := by decide +kernel
theorem dX1_endMinute_150 : decode cX1_endMinute 150 = .ok (.putfield 22, 3) := by decide +kernel
theorem dX1_endMinute_153 : decode cX1_endMinute 153 = .ok (.iload 5, 2) := by decide +kernel
theorem dX1_endMinute_155 : decode cX1_endMinute 155 = .ok (.ifCond .le 7, 3) := by decide +kernel
theorem dX1_endMinute_158 : decode cX1_endMinute 158 = .ok (.iconst 1, 1) := by decide +kernel
theorem dX1_endMinute_159 : decode cX1_endMinute 159 = .ok (.goto 4, 3) := by decide +kernel
theorem dX1_endMinute_162 : decode cX1_endMinute 162 = .ok (.iconst 0, 1) := by decide +kernel
theorem dX1_endMinute_163 : decode cX1_endMinute 163 = .ok (.ireturn, 1) := by decide +kernel
set_option maxRecDepth 100000 in
def F_X1_endMinute_b163 (t0 : Int32) (h : Hp) : Option (Int32 × Hp) :=
  gd (decide (t0 = 0 ∨ t0 = 1)) <| some (t0, h)
set_option maxHeartbeats 4000000 in
set_option maxRecDepth 100000 in
theorem r_X1_endMinute_b163 (t0 : Int32) (h : Hp) {x : Cx} {r : Int32} {hz : Hp} (e : F_X1_endMinute_b163 t0 h = some (r, hz)) (hF : Fin9 M_X1_endMinute x (some .boolean) (some (.int r)) hz) : V M_X1_endMinute x 2 163 [] [.int t0] h 0 0 := by
  unfold F_X1_endMinute_b163 at e
  obtain ⟨g50, e⟩ := gd_some e
  cases e
  exact V_zret (pc := 163) dX1_endMinute_163 (z01 (of_decide_eq_true g50)) hF
set_option maxRecDepth 100000 in
def F_X1_endMinute_b153 (v5 : Int32) (h : Hp) : Option (Int32 × Hp) :=
  (if v5 ≤ 0 then F_X1_endMinute_b163 (0 : Int32) h else F_X1_endMinute_b163 (1 : Int32) h)
set_option maxHeartbeats 4000000 in
set_option maxRecDepth 100000 in
theorem r_X1_endMinute_b153 (v5 : Int32) (h : Hp) {x : Cx} {r : Int32} {hz : Hp} (e : F_X1_endMinute_b153 v5 h = some (r, hz)) (hF : Fin9 M_X1_endMinute x (some .boolean) (some (.int r)) hz) : V M_X1_endMinute x 2 153 [(5, .int v5)] [] h 0 0 := by
  unfold F_X1_endMinute_b153 at e
  refine V_iload (pc := 153) (i := 5) dX1_endMinute_153 rfl ?_
  refine V_if_le (pc := 155) (tgt := 162) dX1_endMinute_155 (by decide) (fun c51 => ?_) (fun c51 => ?_)
  · rw [if_pos c51] at e
    refine V_pick [] rfl ?_
    refine V_iconst (pc := 162) (v := (0 : Int32)) dX1_endMinute_162 (by decide) ?_
    exact V_pick [] rfl (r_X1_endMinute_b163 (0 : Int32) h e hF)
  · rw [if_neg c51] at e
    refine V_pick [] rfl ?_
    refine V_iconst (pc := 158) (v := (1 : Int32)) dX1_endMinute_158 (by decide) ?_
    refine V_goto (pc := 159) (tgt := 163) dX1_endMinute_159 (by decide) ?_
    exact V_pick [] rfl (r_X1_endMinute_b163 (1 : Int32) h e hF)
set_option maxRecDepth 100000 in
def F_X1_endMinute_b0 (v0 : Nat) (v1 : Nat) (v2 : Int32) (h : Hp) : Option (Int32 × Hp) :=
  gd (decide (kd h v1 = 2)) <| ob (zR h v1 1) fun q2 => ob (F_X2_netOfThings v1 q2 (zI h v1 11) h) fun r5 => ob (zR h v1 1) fun q6 => gd (decide (kd h v0 = 1)) <| ob (zR h v0 0) fun q9 => ob (F_X2_netOfGuests v1 q6 q9 h) fun r12 => ob (zR h v1 2) fun q13 => ob (F_X2_netOfThings v1 q13 (zI h v1 11) h) fun r16 => ob (zR h v1 2) fun q17 => ob (zR h v0 0) fun q19 => ob (F_X2_netOfGuests v1 q17 q19 h) fun r22 => ob (zR h v0 1) fun q23 => ob (zR h v1 1) fun q25 => ob (zR h v1 2) fun q27 => ob (F_X1_direction (r5 + r12) (zI h v1 13) h) fun r30 => ob2 (F_X8_slideAll q23 q25 q27 r30 (zI h v1 0) h) fun r32 h33 => gd (decide (kd h q23 = 7)) <| gd (decide (kd h33 v0 = 1)) <| ob (zR h33 v0 1) fun q36 => gd (decide (kd h33 v1 = 2)) <| ob (zR h33 v1 2) fun q39 => ob (zR h33 v1 1) fun q41 => ob (F_X1_direction (r16 + r22) (zI h33 v1 13) h33) fun r44 => ob2 (F_X8_slideAll q36 q39 q41 r44 (zI h33 v1 0) h33) fun r46 h47 => gd (decide (kd h33 q36 = 7)) <| gd (decide (kd h47 v0 = 1)) <| (if (zI (setI h47 v0 3 ((zI h47 v0 3) + (r32 + r46))) v0 2) = (-1 : Int32) then ob (zR (setI h47 v0 3 ((zI h47 v0 3) + (r32 + r46))) v0 1) fun q52 => ob (F_X2_isLevelAt v1 (r5 + r12) (r16 + r22) q52 (setI h47 v0 3 ((zI h47 v0 3) + (r32 + r46)))) fun r55 => gd (decide (kd (setI h47 v0 3 ((zI h47 v0 3) + (r32 + r46))) v1 = 2)) <| (if r55 = 0 then F_X1_endMinute_b153 (r32 + r46) (setI (setI h47 v0 3 ((zI h47 v0 3) + (r32 + r46))) v0 2 v2) else F_X1_endMinute_b153 (r32 + r46) (setI h47 v0 3 ((zI h47 v0 3) + (r32 + r46)))) else F_X1_endMinute_b153 (r32 + r46) (setI h47 v0 3 ((zI h47 v0 3) + (r32 + r46))))
set_option maxHeartbeats 4000000 in
set_option maxRecDepth 100000 in
theorem r_X1_endMinute_b0 (v0 : Nat) (v1 : Nat) (v2 : Int32) (h : Hp) {x : Cx} {r : Int32} {hz : Hp} (e : F_X1_endMinute_b0 v0 v1 v2 h = some (r, hz)) (hF : Fin9 M_X1_endMinute x (some .boolean) (some (.int r)) hz) : V M_X1_endMinute x 2 0 [(0, .ref v0), (1, .ref v1), (2, .int v2)] [] h 0 0 := by
  unfold F_X1_endMinute_b0 at e
  refine V_aload_n (pc := 0) (i := 1) dX1_endMinute_0 rfl rfl ?_
  refine V_aload_n (pc := 1) (i := 1) dX1_endMinute_1 rfl rfl ?_
  obtain ⟨g1, e⟩ := gd_some e
  obtain ⟨q2, g3, e⟩ := ob_some e
  refine V_getR (pc := 2) (ci := 2) (k := 1) (b := q2) dX1_endMinute_2 fl_X1_69 rfl (of_decide_eq_true g1) g3 ?_
  refine V_aload_n (pc := 5) (i := 1) dX1_endMinute_5 rfl rfl ?_
  refine V_getI (pc := 6) (ci := 2) (k := 11) dX1_endMinute_6 fl_X1_72 rfl (of_decide_eq_true g1) ?_
  obtain ⟨r5, g4, e⟩ := ob_some e
  refine V_callV (pc := 9) (bc := 0) (bs := 0) (mc := 0) (ms := 0) (st := []) (As := [.ref q2, .int (zI h v1 11)]) (a := v1) (h' := h) (r := some (.int r5)) dX1_endMinute_9 ml_X1_75 (ci := 2) rfl (of_decide_eq_true g1) rfl rfl (Nat.le_of_ble_eq_true rfl) (d' := 0) (by decide) (c_X2_netOfThings (l := x.2.1) v1 q2 (zI h v1 11) h g4) ?_
  refine V_aload_n (pc := 12) (i := 1) dX1_endMinute_12 rfl rfl ?_
  refine V_aload_n (pc := 13) (i := 1) dX1_endMinute_13 rfl rfl ?_
  obtain ⟨q6, g7, e⟩ := ob_some e
  refine V_getR (pc := 14) (ci := 2) (k := 1) (b := q6) dX1_endMinute_14 fl_X1_69 rfl (of_decide_eq_true g1) g7 ?_
  refine V_aload_n (pc := 17) (i := 0) dX1_endMinute_17 rfl rfl ?_
  obtain ⟨g8, e⟩ := gd_some e
  obtain ⟨q9, g10, e⟩ := ob_some e
  refine V_getR (pc := 18) (ci := 1) (k := 0) (b := q9) dX1_endMinute_18 fl_X1_9 rfl (of_decide_eq_true g8) g10 ?_
  obtain ⟨r12, g11, e⟩ := ob_some e
  refine V_callV (pc := 21) (bc := 0) (bs := 0) (mc := 0) (ms := 0) (st := [.int r5]) (As := [.ref q6, .ref q9]) (a := v1) (h' := h) (r := some (.int r12)) dX1_endMinute_21 ml_X1_79 (ci := 2) rfl (of_decide_eq_true g1) rfl rfl (Nat.le_of_ble_eq_true rfl) (d' := 0) (by decide) (c_X2_netOfGuests (l := x.2.1) v1 q6 q9 h g11) ?_
  refine V_iadd (pc := 24) dX1_endMinute_24 ?_
  refine V_istore_n (pc := 25) (i := 3) (lv' := [(3, .int (r5 + r12)), (0, .ref v0), (1, .ref v1), (2, .int v2)]) dX1_endMinute_25 rfl (by decide) rfl ?_
  refine V_aload_n (pc := 26) (i := 1) dX1_endMinute_26 rfl rfl ?_
  refine V_aload_n (pc := 27) (i := 1) dX1_endMinute_27 rfl rfl ?_
  obtain ⟨q13, g14, e⟩ := ob_some e
  refine V_getR (pc := 28) (ci := 2) (k := 2) (b := q13) dX1_endMinute_28 fl_X1_83 rfl (of_decide_eq_true g1) g14 ?_
  refine V_aload_n (pc := 31) (i := 1) dX1_endMinute_31 rfl rfl ?_
  refine V_getI (pc := 32) (ci := 2) (k := 11) dX1_endMinute_32 fl_X1_72 rfl (of_decide_eq_true g1) ?_
  obtain ⟨r16, g15, e⟩ := ob_some e
  refine V_callV (pc := 35) (bc := 0) (bs := 0) (mc := 0) (ms := 0) (st := []) (As := [.ref q13, .int (zI h v1 11)]) (a := v1) (h' := h) (r := some (.int r16)) dX1_endMinute_35 ml_X1_75 (ci := 2) rfl (of_decide_eq_true g1) rfl rfl (Nat.le_of_ble_eq_true rfl) (d' := 0) (by decide) (c_X2_netOfThings (l := x.2.1) v1 q13 (zI h v1 11) h g15) ?_
  refine V_aload_n (pc := 38) (i := 1) dX1_endMinute_38 rfl rfl ?_
  refine V_aload_n (pc := 39) (i := 1) dX1_endMinute_39 rfl rfl ?_
  obtain ⟨q17, g18, e⟩ := ob_some e
  refine V_getR (pc := 40) (ci := 2) (k := 2) (b := q17) dX1_endMinute_40 fl_X1_83 rfl (of_decide_eq_true g1) g18 ?_
  refine V_aload_n (pc := 43) (i := 0) dX1_endMinute_43 rfl rfl ?_
  obtain ⟨q19, g20, e⟩ := ob_some e
  refine V_getR (pc := 44) (ci := 1) (k := 0) (b := q19) dX1_endMinute_44 fl_X1_9 rfl (of_decide_eq_true g8) g20 ?_
  obtain ⟨r22, g21, e⟩ := ob_some e
  refine V_callV (pc := 47) (bc := 0) (bs := 0) (mc := 0) (ms := 0) (st := [.int r16]) (As := [.ref q17, .ref q19]) (a := v1) (h' := h) (r := some (.int r22)) dX1_endMinute_47 ml_X1_79 (ci := 2) rfl (of_decide_eq_true g1) rfl rfl (Nat.le_of_ble_eq_true rfl) (d' := 0) (by decide) (c_X2_netOfGuests (l := x.2.1) v1 q17 q19 h g21) ?_
  refine V_iadd (pc := 50) dX1_endMinute_50 ?_
  refine V_istore (pc := 51) (i := 4) (lv' := [(4, .int (r16 + r22)), (3, .int (r5 + r12)), (0, .ref v0), (1, .ref v1), (2, .int v2)]) dX1_endMinute_51 (by decide) rfl ?_
  refine V_aload_n (pc := 53) (i := 0) dX1_endMinute_53 rfl rfl ?_
  obtain ⟨q23, g24, e⟩ := ob_some e
  refine V_getR (pc := 54) (ci := 1) (k := 1) (b := q23) dX1_endMinute_54 fl_X1_18 rfl (of_decide_eq_true g8) g24 ?_
  refine V_aload_n (pc := 57) (i := 1) dX1_endMinute_57 rfl rfl ?_
  obtain ⟨q25, g26, e⟩ := ob_some e
  refine V_getR (pc := 58) (ci := 2) (k := 1) (b := q25) dX1_endMinute_58 fl_X1_69 rfl (of_decide_eq_true g1) g26 ?_
  refine V_aload_n (pc := 61) (i := 1) dX1_endMinute_61 rfl rfl ?_
  obtain ⟨q27, g28, e⟩ := ob_some e
  refine V_getR (pc := 62) (ci := 2) (k := 2) (b := q27) dX1_endMinute_62 fl_X1_83 rfl (of_decide_eq_true g1) g28 ?_
  refine V_iload_n (pc := 65) (i := 3) dX1_endMinute_65 rfl rfl ?_
  refine V_aload_n (pc := 66) (i := 1) dX1_endMinute_66 rfl rfl ?_
  refine V_getI (pc := 67) (ci := 2) (k := 13) dX1_endMinute_67 fl_X1_86 rfl (of_decide_eq_true g1) ?_
  obtain ⟨r30, g29, e⟩ := ob_some e
  refine V_callS (pc := 70) (bc := 0) (bs := 0) (mc := 0) (ms := 0) (st := [.ref q27, .ref q25, .ref q23]) (As := [.int (r5 + r12), .int (zI h v1 13)]) (h' := h) (r := some (.int r30)) dX1_endMinute_70 ml_X1_89 rfl rfl (Nat.le_of_ble_eq_true rfl) (d' := 0) (by decide) (c_X1_direction (l := x.2.1) (r5 + r12) (zI h v1 13) h g29) ?_
  refine V_aload_n (pc := 73) (i := 1) dX1_endMinute_73 rfl rfl ?_
  refine V_getI (pc := 74) (ci := 2) (k := 0) dX1_endMinute_74 fl_X1_93 rfl (of_decide_eq_true g1) ?_
  obtain ⟨r32, h33, g31, e⟩ := ob2_some e
  obtain ⟨g34, e⟩ := gd_some e
  refine V_callV (pc := 77) (bc := 0) (bs := 0) (mc := 0) (ms := 0) (st := []) (As := [.ref q25, .ref q27, .int r30, .int (zI h v1 0)]) (a := q23) (h' := h33) (r := some (.int r32)) dX1_endMinute_77 ml_X1_96 (ci := 7) rfl (of_decide_eq_true g34) rfl rfl (Nat.le_of_ble_eq_true rfl) (d' := 1) (by decide) (c_X8_slideAll (l := x.2.1) q23 q25 q27 r30 (zI h v1 0) h g31) ?_
  refine V_istore (pc := 80) (i := 5) (lv' := [(5, .int r32), (4, .int (r16 + r22)), (3, .int (r5 + r12)), (0, .ref v0), (1, .ref v1), (2, .int v2)]) dX1_endMinute_80 (by decide) rfl ?_
  refine V_iload (pc := 82) (i := 5) dX1_endMinute_82 rfl ?_
  refine V_aload_n (pc := 84) (i := 0) dX1_endMinute_84 rfl rfl ?_
  obtain ⟨g35, e⟩ := gd_some e
  obtain ⟨q36, g37, e⟩ := ob_some e
  refine V_getR (pc := 85) (ci := 1) (k := 1) (b := q36) dX1_endMinute_85 fl_X1_18 rfl (of_decide_eq_true g35) g37 ?_
  refine V_aload_n (pc := 88) (i := 1) dX1_endMinute_88 rfl rfl ?_
  obtain ⟨g38, e⟩ := gd_some e
  obtain ⟨q39, g40, e⟩ := ob_some e
  refine V_getR (pc := 89) (ci := 2) (k := 2) (b := q39) dX1_endMinute_89 fl_X1_83 rfl (of_decide_eq_true g38) g40 ?_
  refine V_aload_n (pc := 92) (i := 1) dX1_endMinute_92 rfl rfl ?_
  obtain ⟨q41, g42, e⟩ := ob_some e
  refine V_getR (pc := 93) (ci := 2) (k := 1) (b := q41) dX1_endMinute_93 fl_X1_69 rfl (of_decide_eq_true g38) g42 ?_
  refine V_iload (pc := 96) (i := 4) dX1_endMinute_96 rfl ?_
  refine V_aload_n (pc := 98) (i := 1) dX1_endMinute_98 rfl rfl ?_
  refine V_getI (pc := 99) (ci := 2) (k := 13) dX1_endMinute_99 fl_X1_86 rfl (of_decide_eq_true g38) ?_
  obtain ⟨r44, g43, e⟩ := ob_some e
  refine V_callS (pc := 102) (bc := 0) (bs := 0) (mc := 0) (ms := 0) (st := [.ref q41, .ref q39, .ref q36, .int r32]) (As := [.int (r16 + r22), .int (zI h33 v1 13)]) (h' := h33) (r := some (.int r44)) dX1_endMinute_102 ml_X1_89 rfl rfl (Nat.le_of_ble_eq_true rfl) (d' := 0) (by decide) (c_X1_direction (l := x.2.1) (r16 + r22) (zI h33 v1 13) h33 g43) ?_
  refine V_aload_n (pc := 105) (i := 1) dX1_endMinute_105 rfl rfl ?_
  refine V_getI (pc := 106) (ci := 2) (k := 0) dX1_endMinute_106 fl_X1_93 rfl (of_decide_eq_true g38) ?_
  obtain ⟨r46, h47, g45, e⟩ := ob2_some e
  obtain ⟨g48, e⟩ := gd_some e
  refine V_callV (pc := 109) (bc := 0) (bs := 0) (mc := 0) (ms := 0) (st := [.int r32]) (As := [.ref q39, .ref q41, .int r44, .int (zI h33 v1 0)]) (a := q36) (h' := h47) (r := some (.int r46)) dX1_endMinute_109 ml_X1_96 (ci := 7) rfl (of_decide_eq_true g48) rfl rfl (Nat.le_of_ble_eq_true rfl) (d' := 1) (by decide) (c_X8_slideAll (l := x.2.1) q36 q39 q41 r44 (zI h33 v1 0) h33 g45) ?_
  refine V_iadd (pc := 112) dX1_endMinute_112 ?_
  refine V_istore (pc := 113) (i := 5) (lv' := [(5, .int (r32 + r46)), (4, .int (r16 + r22)), (3, .int (r5 + r12)), (0, .ref v0), (1, .ref v1), (2, .int v2)]) dX1_endMinute_113 (by decide) rfl ?_
  refine V_aload_n (pc := 115) (i := 0) dX1_endMinute_115 rfl rfl ?_
  refine V_dup (pc := 116) dX1_endMinute_116 rfl ?_
  obtain ⟨g49, e⟩ := gd_some e
  refine V_getI (pc := 117) (ci := 1) (k := 3) dX1_endMinute_117 fl_X1_26 rfl (of_decide_eq_true g49) ?_
  refine V_iload (pc := 120) (i := 5) dX1_endMinute_120 rfl ?_
  refine V_iadd (pc := 122) dX1_endMinute_122 ?_
  refine V_putI (pc := 123) (ci := 1) (k := 3) dX1_endMinute_123 fp_X1_26 rfl (of_decide_eq_true g49) ?_
  refine V_aload_n (pc := 126) (i := 0) dX1_endMinute_126 rfl rfl ?_
  refine V_getI (pc := 127) (ci := 1) (k := 2) dX1_endMinute_127 fl_X1_22 rfl (kd_sI (of_decide_eq_true g49)) ?_
  refine V_iconst (pc := 130) (v := (-1 : Int32)) dX1_endMinute_130 (by decide) ?_
  refine V_icmp_ne (pc := 131) (tgt := 153) dX1_endMinute_131 (by decide) (fun c58 => ?_) (fun c58 => ?_)
  · rw [if_neg c58] at e
    exact V_pick [0] rfl (r_X1_endMinute_b153 (r32 + r46) (setI h47 v0 3 ((zI h47 v0 3) + (r32 + r46))) e hF)
  · rw [if_pos c58] at e
    refine V_pick [3, 4, 5, 2, 1, 0] rfl ?_
    refine V_aload_n (pc := 134) (i := 1) dX1_endMinute_134 rfl rfl ?_
    refine V_iload_n (pc := 135) (i := 3) dX1_endMinute_135 rfl rfl ?_
    refine V_iload (pc := 136) (i := 4) dX1_endMinute_136 rfl ?_
    refine V_aload_n (pc := 138) (i := 0) dX1_endMinute_138 rfl rfl ?_
    obtain ⟨q52, g53, e⟩ := ob_some e
    refine V_getR (pc := 139) (ci := 1) (k := 1) (b := q52) dX1_endMinute_139 fl_X1_18 rfl (kd_sI (of_decide_eq_true g49)) g53 ?_
    obtain ⟨r55, g54, e⟩ := ob_some e
    obtain ⟨g56, e⟩ := gd_some e
    refine V_callV (pc := 142) (bc := 0) (bs := 0) (mc := 0) (ms := 0) (st := []) (As := [.int (r5 + r12), .int (r16 + r22), .ref q52]) (a := v1) (h' := (setI h47 v0 3 ((zI h47 v0 3) + (r32 + r46)))) (r := some (.int r55)) dX1_endMinute_142 ml_X1_100 (ci := 2) rfl (of_decide_eq_true g56) rfl rfl (Nat.le_of_ble_eq_true rfl) (d' := 1) (by decide) (c_X2_isLevelAt (l := x.2.1) v1 (r5 + r12) (r16 + r22) q52 (setI h47 v0 3 ((zI h47 v0 3) + (r32 + r46))) g54) ?_
    refine V_if_ne (pc := 145) (tgt := 153) dX1_endMinute_145 (by decide) (fun c57 => ?_) (fun c57 => ?_)
    · rw [if_neg c57] at e
      exact V_pick [5] rfl (r_X1_endMinute_b153 (r32 + r46) (setI h47 v0 3 ((zI h47 v0 3) + (r32 + r46))) e hF)
    · rw [if_pos c57] at e
      refine V_pick [0, 2, 5] rfl ?_
      refine V_aload_n (pc := 148) (i := 0) dX1_endMinute_148 rfl rfl ?_
      refine V_iload_n (pc := 149) (i := 2) dX1_endMinute_149 rfl rfl ?_
      refine V_putI (pc := 150) (ci := 1) (k := 2) dX1_endMinute_150 fp_X1_22 rfl (kd_sI (of_decide_eq_true g49)) ?_
      exact V_pick [2] rfl (r_X1_endMinute_b153 (r32 + r46) (setI (setI h47 v0 3 ((zI h47 v0 3) + (r32 + r46))) v0 2 v2) e hF)
def F_X1_endMinute (v0 : Nat) (v1 : Nat) (v2 : Int32) (h : Hp) : Option (Int32 × Hp) := F_X1_endMinute_b0 v0 v1 v2 h
theorem c_X1_endMinute {l : Launch} (v0 : Nat) (v1 : Nat) (v2 : Int32) (h : Hp) {r : Int32} {hz : Hp} (e : F_X1_endMinute v0 v1 v2 h = some (r, hz)) : Ct l yX1_endMinute M_X1_endMinute (some .boolean) 2 [.ref v0, .ref v1, .int v2] h 0 0 (some (.int r)) hz :=
  Ct_of rfl rfl (fun q => by cases q) (Nat.le_of_ble_eq_true rfl) (fun x _ hF => V_pick [0, 1, 2] rfl (r_X1_endMinute_b0 v0 v1 v2 h e hF))

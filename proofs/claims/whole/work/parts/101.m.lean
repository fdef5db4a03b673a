theorem dX12_letters_0 : decode cX12_letters 0 = .ok (.aload_n 0, 1) := by decide +kernel
theorem dX12_letters_1 : decode cX12_letters 1 = .ok (.invokevirtual 96, 3) := by decide +kernel
theorem dX12_letters_4 : decode cX12_letters 4 = .ok (.aload_n 0, 1) := by decide +kernel
theorem dX12_letters_5 : decode cX12_letters 5 = .ok (.bipush 97, 2) := by decide +kernel
theorem dX12_letters_7 : decode cX12_letters 7 = .ok (.bipush 122, 2) := by decide +kernel
theorem dX12_letters_9 : decode cX12_letters 9 = .ok (.invokevirtual 89, 3) := by decide +kernel
theorem dX12_letters_12 : decode cX12_letters 12 = .ok (.ifCond .eq 16, 3) := by decide +kernel
theorem dX12_letters_15 : decode cX12_letters 15 = .ok (.aload_n 0, 1) := by decide +kernel
theorem dX12_letters_16 : decode cX12_letters 16 = .ok (.dup, 1) := by decide +kernel
theorem dX12_letters_17 : decode cX12_letters 17 = .ok (.getfield 83, 3) := by decide +kernel
theorem dX12_letters_20 : decode cX12_letters 20 = .ok (.iconst 1, 1) := by decide +kernel
theorem dX12_letters_21 : decode cX12_letters 21 = .ok (.iadd, 1) := by decide +kernel
theorem dX12_letters_22 : decode cX12_letters 22 = .ok (.putfield 83, 3) := by decide +kernel
theorem dX12_letters_25 : decode cX12_letters 25 = .ok (.goto (-21), 3) := by decide +kernel
theorem dX12_letters_28 : decode cX12_letters 28 = .ok (.return_, 1) := by decide +kernel
set_option maxRecDepth 100000 in
def F_X12_letters_l4 (v0 : Nat) (h : Hp) : Option (Hp ⊕ Hp) :=
  ob (F_X12_isAt v0 (97 : Int32) (122 : Int32) h) fun r6 => gd (decide (kd h v0 = 11)) <| (if r6 = 0 then some (.inr h) else some (.inl (setI h v0 7 ((zI h v0 7) + (1 : Int32)))))
set_option maxHeartbeats 4000000 in
set_option maxRecDepth 100000 in
theorem r_X12_letters_l4 (v0 : Nat) (h : Hp) {x : Cx} {o : (Hp ⊕ Hp)} (e : F_X12_letters_l4 v0 h = some o) (kI : ∀ z, o = .inl z → V M_X12_letters x 2 4 [(0, .ref v0)] [] z 0 0) (kE28 : ∀ z : Hp, o = .inr z → V M_X12_letters x 2 28 [] [] z 0 0) : V M_X12_letters x 2 4 [(0, .ref v0)] [] h 0 0 := by
  unfold F_X12_letters_l4 at e
  refine V_aload_n (pc := 4) (i := 0) dX12_letters_4 rfl rfl ?_
  refine V_bipush (pc := 5) (v := (97 : Int32)) dX12_letters_5 (by decide) ?_
  refine V_bipush (pc := 7) (v := (122 : Int32)) dX12_letters_7 (by decide) ?_
  obtain ⟨r6, g5, e⟩ := ob_some e
  obtain ⟨g7, e⟩ := gd_some e
  refine V_callV (pc := 9) (bc := 0) (bs := 0) (mc := 0) (ms := 0) (st := []) (As := [.int (97 : Int32), .int (122 : Int32)]) (a := v0) (h' := h) (r := some (.int r6)) dX12_letters_9 ml_X12_89 (ci := 11) rfl (of_decide_eq_true g7) rfl rfl (Nat.le_of_ble_eq_true rfl) (d' := 0) (by decide) (c_X12_isAt (l := x.2.1) v0 (97 : Int32) (122 : Int32) h g5) ?_
  refine V_if_eq (pc := 12) (tgt := 28) dX12_letters_12 (by decide) (fun c8 => ?_) (fun c8 => ?_)
  · rw [if_pos c8] at e
    cases e
    exact V_pick [] rfl (kE28 h rfl)
  · rw [if_neg c8] at e
    refine V_pick [0] rfl ?_
    refine V_aload_n (pc := 15) (i := 0) dX12_letters_15 rfl rfl ?_
    refine V_dup (pc := 16) dX12_letters_16 rfl ?_
    refine V_getI (pc := 17) (ci := 11) (k := 7) dX12_letters_17 fl_X12_83 rfl (of_decide_eq_true g7) ?_
    refine V_iconst (pc := 20) (v := (1 : Int32)) dX12_letters_20 (by decide) ?_
    refine V_iadd (pc := 21) dX12_letters_21 ?_
    refine V_putI (pc := 22) (ci := 11) (k := 7) dX12_letters_22 fp_X12_83 rfl (of_decide_eq_true g7) ?_
    refine V_goto (pc := 25) (tgt := 4) dX12_letters_25 (by decide) ?_
    cases e
    exact V_pick [0] rfl (kI (setI h v0 7 ((zI h v0 7) + (1 : Int32))) rfl)
set_option maxRecDepth 100000 in
def F_X12_letters_b0 (v0 : Nat) (h : Hp) : Option (Unit × Hp) :=
  ob2 (F_X12_blanks v0 h) fun _ h3 => gd (decide (kd h v0 = 11)) <| ob (iter (fun z : Hp => F_X12_letters_l4 v0 z) FU h3) (fun h9 => some ((), h9))
set_option maxHeartbeats 4000000 in
set_option maxRecDepth 100000 in
theorem r_X12_letters_b0 (v0 : Nat) (h : Hp) {x : Cx} {r : Unit} {hz : Hp} (e : F_X12_letters_b0 v0 h = some (r, hz)) (hF : Fin9 M_X12_letters x none none hz) : V M_X12_letters x 2 0 [(0, .ref v0)] [] h 0 0 := by
  unfold F_X12_letters_b0 at e
  refine V_aload_n (pc := 0) (i := 0) dX12_letters_0 rfl rfl ?_
  obtain ⟨r2, h3, g1, e⟩ := ob2_some e
  obtain ⟨g4, e⟩ := gd_some e
  refine V_callV (pc := 1) (bc := 0) (bs := 0) (mc := 0) (ms := 0) (st := []) (As := []) (a := v0) (h' := h3) (r := none) dX12_letters_1 ml_X12_96 (ci := 11) rfl (of_decide_eq_true g4) rfl rfl (Nat.le_of_ble_eq_true rfl) (d' := 1) (by decide) (c_X12_blanks (l := x.2.1) v0 h g1) ?_
  refine V_pick [0] rfl ?_
  obtain ⟨y10, g11, e⟩ := ob_some e
  refine iter_V (P := fun z : Hp => V M_X12_letters x 2 4 [(0, .ref v0)] [] z 0 0) (E := fun z : Hp => V M_X12_letters x 2 28 [] [] z 0 0) (fun z o e9 k1 k2 => r_X12_letters_l4 v0 z e9 (fun z hz9 => k1 z hz9) (fun z hz9 => k2 _ hz9)) _ _ _ g11 ?_
  clear g11
  obtain ⟨h9, rfl⟩ : ∃ q, q = y10 := ⟨_, rfl⟩
  replace e : (some ((), h9)) = some (r, hz) := e
  show V M_X12_letters x 2 28 [] [] h9 0 0
  cases e
  exact V_vret (pc := 28) dX12_letters_28 hF
def F_X12_letters (v0 : Nat) (h : Hp) : Option (Unit × Hp) := F_X12_letters_b0 v0 h
theorem c_X12_letters {l : Launch} (v0 : Nat) (h : Hp) {r : Unit} {hz : Hp} (e : F_X12_letters v0 h = some (r, hz)) : Ct l yX12_letters M_X12_letters none 2 [.ref v0] h 0 0 none hz :=
  Ct_of rfl rfl (fun q => by cases q) (Nat.le_of_ble_eq_true rfl) (fun x _ hF => V_pick [0] rfl (r_X12_letters_b0 v0 h e hF))
theorem dX12_isWord_0 : decode cX12_isWord 0 = .ok (.aload_n 0, 1) := by decide +kernel
theorem dX12_isWord_1 : decode cX12_isWord 1 = .ok (.getfield 83, 3) := by decide +kernel
theorem dX12_isWord_4 : decode cX12_isWord 4 = .ok (.aload_n 0, 1) := by decide +kernel
theorem dX12_isWord_5 : decode cX12_isWord 5 = .ok (.getfield 93, 3) := by decide +kernel
theorem dX12_isWord_8 : decode cX12_isWord 8 = .ok (.isub, 1) := by decide +kernel
theorem dX12_isWord_9 : decode cX12_isWord 9 = .ok (.aload_n 1, 1) := by decide +kernel
theorem dX12_isWord_10 : decode cX12_isWord 10 = .ok (.invokevirtual 99, 3) := by decide +kernel
theorem dX12_isWord_13 : decode cX12_isWord 13 = .ok (.if_icmp .ne 7, 3) := by decide +kernel
theorem dX12_isWord_16 : decode cX12_isWord 16 = .ok (.iconst 1, 1) := by decide +kernel
theorem dX12_isWord_17 : decode cX12_isWord 17 = .ok (.goto 4, 3) := by decide +kernel
theorem dX12_isWord_20 : decode cX12_isWord 20 = .ok (.iconst 0, 1) := by decide +kernel
theorem dX12_isWord_21 : decode cX12_isWord 21 = .ok (.istore_n 2, 1) := by decide +kernel
theorem dX12_isWord_22 : decode cX12_isWord 22 = .ok (.iconst 0, 1) := by decide +kernel
theorem dX12_isWord_23 : decode cX12_isWord 23 = .ok (.istore_n 3, 1) := by decide +kernel
theorem dX12_isWord_24 : decode cX12_isWord 24 = .ok (.iload_n 2, 1) := by decide +kernel
theorem dX12_isWord_25 : decode cX12_isWord 25 = .ok (.ifCond .eq 42, 3) := by decide +kernel
theorem dX12_isWord_28 : decode cX12_isWord 28 = .ok (.iload_n 3, 1) := by decide +kernel
theorem dX12_isWord_29 : decode cX12_isWord 29 = .ok (.aload_n 1, 1) := by decide +kernel
theorem dX12_isWord_30 : decode cX12_isWord 30 = .ok (.invokevirtual 99, 3) := by decide +kernel
theorem dX12_isWord_33 : decode cX12_isWord 33 = .ok (.if_icmp .ge 34, 3) := by decide +kernel
theorem dX12_isWord_36 : decode cX12_isWord 36 = .ok (.aload_n 0, 1) := by decide +kernel
theorem dX12_isWord_37 : decode cX12_isWord 37 = .ok (.getfield 23, 3) := by decide +kernel
theorem dX12_isWord_40 : decode cX12_isWord 40 = .ok (.aload_n 0, 1) := by decide +kernel
theorem dX12_isWord_41 : decode cX12_isWord 41 = .ok (.getfield 93, 3) := by decide +kernel
theorem dX12_isWord_44 : decode cX12_isWord 44 = .ok (.iload_n 3, 1) := by decide +kernel
theorem dX12_isWord_45 : decode cX12_isWord 45 = .ok (.iadd, 1) := by decide +kernel
theorem dX12_isWord_46 : decode cX12_isWord 46 = .ok (.baload, 1) := by decide +kernel
theorem dX12_isWord_47 : decode cX12_isWord 47 = .ok (.aload_n 1, 1) := by decide +kernel
theorem dX12_isWord_48 : decode cX12_isWord 48 = .ok (.iload_n 3, 1) := by decide +kernel
theorem dX12_isWord_49 : decode cX12_isWord 49 = .ok (.invokevirtual 104, 3) := by decide +kernel
theorem dX12_isWord_52 : decode cX12_isWord 52 = .ok (.if_icmp .ne 7, 3) := by decide +kernel
theorem dX12_isWord_55 : decode cX12_isWord 55 = .ok (.iconst 1, 1) := by decide +kernel
theorem dX12_isWord_56 : decode cX12_isWord 56 = .ok (.goto 4, 3) := by decide +kernel
theorem dX12_isWord_59 : decode cX12_isWord 59 = .ok (.iconst 0, 1) := by decide +kernel
theorem dX12_isWord_60 : decode cX12_isWord 60 = .ok (.istore_n 2, 1) := by decide +kernel
theorem dX12_isWord_61 : decode cX12_isWord 61 = .ok (.iinc 3 1, 3) := by decide +kernel
theorem dX12_isWord_64 : decode cX12_isWord 64 = .ok (.goto (-40), 3) := by decide +kernel
theorem dX12_isWord_67 : decode cX12_isWord 67 = .ok (.iload_n 2, 1) := by decide +kernel
theorem dX12_isWord_68 : decode cX12_isWord 68 = .ok (.ireturn, 1) := by decide +kernel
set_option maxRecDepth 100000 in
def F_X12_isWord_b60 (v0 : Nat) (v1 : UInt32) (v3 : Int32) (t0 : Int32) (h : Hp) : Option ((Int32 × Int32) ⊕ Int32) :=
  some (.inl (t0, v3 + (1 : Int32)))
set_option maxHeartbeats 4000000 in
set_option maxRecDepth 100000 in
theorem r_X12_isWord_b60 (v0 : Nat) (v1 : UInt32) (v3 : Int32) (t0 : Int32) (h : Hp) {x : Cx} {o : ((Int32 × Int32) ⊕ Int32)} (e : F_X12_isWord_b60 v0 v1 v3 t0 h = some o) (kI : ∀ z, o = .inl z → V M_X12_isWord x 4 24 [(0, .ref v0), (1, .float v1), (2, .int z.1), (3, .int z.2)] [] h 0 0) (kE67 : ∀ z : Int32, o = .inr z → V M_X12_isWord x 4 67 [(2, .int z)] [] h 0 0) : V M_X12_isWord x 4 60 [(0, .ref v0), (1, .float v1), (3, .int v3)] [.int t0] h 0 0 := by
  unfold F_X12_isWord_b60 at e
  refine V_istore_n (pc := 60) (i := 2) (lv' := [(2, .int t0), (0, .ref v0), (1, .float v1), (3, .int v3)]) dX12_isWord_60 rfl (by decide) rfl ?_
  refine V_iinc (pc := 61) (i := 3) (u := v3 + (1 : Int32)) (lv' := [(3, .int (v3 + (1 : Int32))), (2, .int t0), (0, .ref v0), (1, .float v1)]) dX12_isWord_61 rfl rfl (by decide) rfl ?_
  refine V_goto (pc := 64) (tgt := 24) dX12_isWord_64 (by decide) ?_
  cases e
  exact V_pick [2, 3, 1, 0] rfl (kI (t0, v3 + (1 : Int32)) rfl)
set_option maxRecDepth 100000 in
def F_X12_isWord_l24 (v0 : Nat) (v1 : UInt32) (v2 : Int32) (v3 : Int32) (h : Hp) : Option ((Int32 × Int32) ⊕ Int32) :=
  (if v2 = 0 then some (.inr v2) else gd (decide ((v1).toNat < 64)) <| (if (slen v1) ≤ v3 then some (.inr v2) else gd (decide (kd h v0 = 11)) <| ob (zR h v0 5) fun q5 => gd (decide (kd h q5 = 12)) <| gd (ix ((zI h v0 9) + v3) (zl h q5)) <| gd (decide ((v1).toNat < 64)) <| gd (ix v3 (sB.getD (v1).toNat []).length) <| (if (zI h q5 ((zI h v0 9) + v3).toNatClampNeg) = (schar v1 v3) then F_X12_isWord_b60 v0 v1 v3 (1 : Int32) h else F_X12_isWord_b60 v0 v1 v3 (0 : Int32) h)))
set_option maxHeartbeats 4000000 in
set_option maxRecDepth 100000 in
theorem r_X12_isWord_l24 (v0 : Nat) (v1 : UInt32) (v2 : Int32) (v3 : Int32) (h : Hp) {x : Cx} {o : ((Int32 × Int32) ⊕ Int32)} (e : F_X12_isWord_l24 v0 v1 v2 v3 h = some o) (kI : ∀ z, o = .inl z → V M_X12_isWord x 4 24 [(0, .ref v0), (1, .float v1), (2, .int z.1), (3, .int z.2)] [] h 0 0) (kE67 : ∀ z : Int32, o = .inr z → V M_X12_isWord x 4 67 [(2, .int z)] [] h 0 0) : V M_X12_isWord x 4 24 [(0, .ref v0), (1, .float v1), (2, .int v2), (3, .int v3)] [] h 0 0 := by
  unfold F_X12_isWord_l24 at e
  refine V_iload_n (pc := 24) (i := 2) dX12_isWord_24 rfl rfl ?_
  refine V_if_eq (pc := 25) (tgt := 67) dX12_isWord_25 (by decide) (fun c13 => ?_) (fun c13 => ?_)
  · rw [if_pos c13] at e
    cases e
    exact V_pick [2] rfl (kE67 v2 rfl)
  · rw [if_neg c13] at e
    refine V_pick [0, 1, 2, 3] rfl ?_
    refine V_iload_n (pc := 28) (i := 3) dX12_isWord_28 rfl rfl ?_
    refine V_saload_n (pc := 29) (i := 1) dX12_isWord_29 rfl rfl ?_
    obtain ⟨g3, e⟩ := gd_some e
    refine V_slen (pc := 30) dX12_isWord_30 ms_X12_99 (of_decide_eq_true g3) (by decide) (Nat.le_of_ble_eq_true rfl) ?_
    refine V_icmp_ge (pc := 33) (tgt := 67) dX12_isWord_33 (by decide) (fun c12 => ?_) (fun c12 => ?_)
    · rw [if_pos c12] at e
      cases e
      exact V_pick [2] rfl (kE67 v2 rfl)
    · rw [if_neg c12] at e
      refine V_pick [0, 1, 3] rfl ?_
      refine V_aload_n (pc := 36) (i := 0) dX12_isWord_36 rfl rfl ?_
      obtain ⟨g4, e⟩ := gd_some e
      obtain ⟨q5, g6, e⟩ := ob_some e
      refine V_getR (pc := 37) (ci := 11) (k := 5) (b := q5) dX12_isWord_37 fl_X12_23 rfl (of_decide_eq_true g4) g6 ?_
      refine V_aload_n (pc := 40) (i := 0) dX12_isWord_40 rfl rfl ?_
      refine V_getI (pc := 41) (ci := 11) (k := 9) dX12_isWord_41 fl_X12_93 rfl (of_decide_eq_true g4) ?_
      refine V_iload_n (pc := 44) (i := 3) dX12_isWord_44 rfl rfl ?_
      refine V_iadd (pc := 45) dX12_isWord_45 ?_
      obtain ⟨g7, e⟩ := gd_some e
      obtain ⟨g8, e⟩ := gd_some e
      refine V_bald (pc := 46) dX12_isWord_46 (of_decide_eq_true g7) (ix_in g8) ?_
      refine V_saload_n (pc := 47) (i := 1) dX12_isWord_47 rfl rfl ?_
      refine V_iload_n (pc := 48) (i := 3) dX12_isWord_48 rfl rfl ?_
      obtain ⟨g9, e⟩ := gd_some e
      obtain ⟨g10, e⟩ := gd_some e
      refine V_schar (pc := 49) dX12_isWord_49 ms_X12_104 (of_decide_eq_true g9) (ix_in g10) (by decide) (Nat.le_of_ble_eq_true rfl) ?_
      refine V_icmp_ne (pc := 52) (tgt := 59) dX12_isWord_52 (by decide) (fun c11 => ?_) (fun c11 => ?_)
      · rw [if_neg c11] at e
        refine V_pick [0, 1, 2] rfl ?_
        refine V_iconst (pc := 59) (v := (0 : Int32)) dX12_isWord_59 (by decide) ?_
        exact V_pick [0, 1, 2] rfl (r_X12_isWord_b60 v0 v1 v3 (0 : Int32) h e kI kE67)
      · rw [if_pos c11] at e
        refine V_pick [0, 1, 2] rfl ?_
        refine V_iconst (pc := 55) (v := (1 : Int32)) dX12_isWord_55 (by decide) ?_
        refine V_goto (pc := 56) (tgt := 60) dX12_isWord_56 (by decide) ?_
        exact V_pick [0, 1, 2] rfl (r_X12_isWord_b60 v0 v1 v3 (1 : Int32) h e kI kE67)
set_option maxRecDepth 100000 in
def F_X12_isWord_b67 (v2 : Int32) (h : Hp) : Option Int32 :=
  gd (decide (v2 = 0 ∨ v2 = 1)) <| some v2
set_option maxHeartbeats 4000000 in
set_option maxRecDepth 100000 in
theorem r_X12_isWord_b67 (v2 : Int32) (h : Hp) {x : Cx} {r : Int32} (e : F_X12_isWord_b67 v2 h = some r) (hF : Fin9 M_X12_isWord x (some .boolean) (some (.int r)) h) : V M_X12_isWord x 4 67 [(2, .int v2)] [] h 0 0 := by
  unfold F_X12_isWord_b67 at e
  refine V_iload_n (pc := 67) (i := 2) dX12_isWord_67 rfl rfl ?_
  obtain ⟨g15, e⟩ := gd_some e
  cases e
  exact V_zret (pc := 68) dX12_isWord_68 (z01 (of_decide_eq_true g15)) hF
set_option maxRecDepth 100000 in
def F_X12_isWord_b21 (v0 : Nat) (v1 : UInt32) (t0 : Int32) (h : Hp) : Option Int32 :=
  ob (iter (fun z : Int32 × Int32 => F_X12_isWord_l24 v0 v1 z.1 z.2 h) FU (t0, (0 : Int32))) (fun w14 => F_X12_isWord_b67 w14 h)
set_option maxHeartbeats 4000000 in
set_option maxRecDepth 100000 in
theorem r_X12_isWord_b21 (v0 : Nat) (v1 : UInt32) (t0 : Int32) (h : Hp) {x : Cx} {r : Int32} (e : F_X12_isWord_b21 v0 v1 t0 h = some r) (hF : Fin9 M_X12_isWord x (some .boolean) (some (.int r)) h) : V M_X12_isWord x 4 21 [(0, .ref v0), (1, .float v1)] [.int t0] h 0 0 := by
  unfold F_X12_isWord_b21 at e
  refine V_istore_n (pc := 21) (i := 2) (lv' := [(2, .int t0), (0, .ref v0), (1, .float v1)]) dX12_isWord_21 rfl (by decide) rfl ?_
  refine V_iconst (pc := 22) (v := (0 : Int32)) dX12_isWord_22 (by decide) ?_
  refine V_istore_n (pc := 23) (i := 3) (lv' := [(3, .int (0 : Int32)), (2, .int t0), (0, .ref v0), (1, .float v1)]) dX12_isWord_23 rfl (by decide) rfl ?_
  refine V_pick [2, 3, 1, 0] rfl ?_
  obtain ⟨y16, g17, e⟩ := ob_some e
  refine iter_V (P := fun z : Int32 × Int32 => V M_X12_isWord x 4 24 [(0, .ref v0), (1, .float v1), (2, .int z.1), (3, .int z.2)] [] h 0 0) (E := fun z : Int32 => V M_X12_isWord x 4 67 [(2, .int z)] [] h 0 0) (fun z o e9 k1 k2 => r_X12_isWord_l24 v0 v1 z.1 z.2 h e9 (fun z hz9 => k1 z hz9) (fun z hz9 => k2 _ hz9)) _ _ _ g17 ?_
  clear g17
  obtain ⟨w14, rfl⟩ : ∃ q, q = y16 := ⟨_, rfl⟩
  replace e : (F_X12_isWord_b67 w14 h) = some r := e
  show V M_X12_isWord x 4 67 [(2, .int w14)] [] h 0 0
  exact V_pick [0] rfl (r_X12_isWord_b67 w14 h e hF)
set_option maxRecDepth 100000 in
def F_X12_isWord_b0 (v0 : Nat) (v1 : UInt32) (h : Hp) : Option Int32 :=
  gd (decide (kd h v0 = 11)) <| gd (decide ((v1).toNat < 64)) <| (if ((zI h v0 7) - (zI h v0 9)) = (slen v1) then F_X12_isWord_b21 v0 v1 (1 : Int32) h else F_X12_isWord_b21 v0 v1 (0 : Int32) h)
set_option maxHeartbeats 4000000 in
set_option maxRecDepth 100000 in
theorem r_X12_isWord_b0 (v0 : Nat) (v1 : UInt32) (h : Hp) {x : Cx} {r : Int32} (e : F_X12_isWord_b0 v0 v1 h = some r) (hF : Fin9 M_X12_isWord x (some .boolean) (some (.int r)) h) : V M_X12_isWord x 4 0 [(0, .ref v0), (1, .float v1)] [] h 0 0 := by
  unfold F_X12_isWord_b0 at e
  refine V_aload_n (pc := 0) (i := 0) dX12_isWord_0 rfl rfl ?_
  obtain ⟨g1, e⟩ := gd_some e
  refine V_getI (pc := 1) (ci := 11) (k := 7) dX12_isWord_1 fl_X12_83 rfl (of_decide_eq_true g1) ?_
  refine V_aload_n (pc := 4) (i := 0) dX12_isWord_4 rfl rfl ?_
  refine V_getI (pc := 5) (ci := 11) (k := 9) dX12_isWord_5 fl_X12_93 rfl (of_decide_eq_true g1) ?_
  refine V_isub (pc := 8) dX12_isWord_8 ?_
  refine V_saload_n (pc := 9) (i := 1) dX12_isWord_9 rfl rfl ?_
  obtain ⟨g2, e⟩ := gd_some e
  refine V_slen (pc := 10) dX12_isWord_10 ms_X12_99 (of_decide_eq_true g2) (by decide) (Nat.le_of_ble_eq_true rfl) ?_
  refine V_icmp_ne (pc := 13) (tgt := 20) dX12_isWord_13 (by decide) (fun c18 => ?_) (fun c18 => ?_)
  · rw [if_neg c18] at e
    refine V_pick [0, 1] rfl ?_
    refine V_iconst (pc := 20) (v := (0 : Int32)) dX12_isWord_20 (by decide) ?_
    exact V_pick [0, 1] rfl (r_X12_isWord_b21 v0 v1 (0 : Int32) h e hF)
  · rw [if_pos c18] at e
    refine V_pick [0, 1] rfl ?_
    refine V_iconst (pc := 16) (v := (1 : Int32)) dX12_isWord_16 (by decide) ?_
    refine V_goto (pc := 17) (tgt := 21) dX12_isWord_17 (by decide) ?_
    exact V_pick [0, 1] rfl (r_X12_isWord_b21 v0 v1 (1 : Int32) h e hF)
def F_X12_isWord (v0 : Nat) (v1 : UInt32) (h : Hp) : Option Int32 := F_X12_isWord_b0 v0 v1 h
theorem c_X12_isWord {l : Launch} (v0 : Nat) (v1 : UInt32) (h : Hp) {r : Int32} (e : F_X12_isWord v0 v1 h = some r) : Ct l yX12_isWord M_X12_isWord (some .boolean) 4 [.ref v0, .float v1] h 0 0 (some (.int r)) h :=
  Ct_of rfl rfl (fun q => by cases q) (Nat.le_of_ble_eq_true rfl) (fun x _ hF => V_pick [0, 1] rfl (r_X12_isWord_b0 v0 v1 h e hF))
theorem dX12_passes_0 : decode cX12_passes 0 = .ok (.aload_n 0, 1) := by decide +kernel
theorem dX12_passes_1 : decode cX12_passes 1 = .ok (.invokevirtual 108, 3) := by decide +kernel
theorem dX12_passes_4 : decode cX12_passes 4 = .ok (.aload_n 0, 1) := by decide +kernel
theorem dX12_passes_5 : decode cX12_passes 5 = .ok (.aload_n 1, 1) := by decide +kernel
theorem dX12_passes_6 : decode cX12_passes 6 = .ok (.invokevirtual 111, 3) := by decide +kernel
theorem dX12_passes_9 : decode cX12_passes 9 = .ok (.ifCond .eq 5, 3) := by decide +kernel
theorem dX12_passes_12 : decode cX12_passes 12 = .ok (.iconst 1, 1) := by decide +kernel
theorem dX12_passes_13 : decode cX12_passes 13 = .ok (.ireturn, 1) := by decide +kernel
theorem dX12_passes_14 : decode cX12_passes 14 = .ok (.aload_n 0, 1) := by decide +kernel
theorem dX12_passes_15 : decode cX12_passes 15 = .ok (.aload_n 0, 1) := by decide +kernel
theorem dX12_passes_16 : decode cX12_passes 16 = .ok (.getfield 93, 3) := by decide +kernel
theorem dX12_passes_19 : decode cX12_passes 19 = .ok (.putfield 83, 3) := by decide +kernel
theorem dX12_passes_22 : decode cX12_passes 22 = .ok (.iconst 0, 1) := by decide +kernel
theorem dX12_passes_23 : decode cX12_passes 23 = .ok (.ireturn, 1) := by decide +kernel
set_option maxRecDepth 100000 in
def F_X12_passes_b0 (v0 : Nat) (v1 : UInt32) (h : Hp) : Option (Int32 × Hp) :=
  ob2 (F_X12_letters v0 h) fun _ h3 => gd (decide (kd h v0 = 11)) <| ob (F_X12_isWord v0 v1 h3) fun r6 => gd (decide (kd h3 v0 = 11)) <| (if r6 = 0 then some ((0 : Int32), setI h3 v0 7 (zI h3 v0 9)) else some ((1 : Int32), h3))
set_option maxHeartbeats 4000000 in
set_option maxRecDepth 100000 in
theorem r_X12_passes_b0 (v0 : Nat) (v1 : UInt32) (h : Hp) {x : Cx} {r : Int32} {hz : Hp} (e : F_X12_passes_b0 v0 v1 h = some (r, hz)) (hF : Fin9 M_X12_passes x (some .boolean) (some (.int r)) hz) : V M_X12_passes x 5 0 [(0, .ref v0), (1, .float v1)] [] h 0 0 := by
  unfold F_X12_passes_b0 at e
  refine V_aload_n (pc := 0) (i := 0) dX12_passes_0 rfl rfl ?_
  obtain ⟨r2, h3, g1, e⟩ := ob2_some e
  obtain ⟨g4, e⟩ := gd_some e
  refine V_callV (pc := 1) (bc := 0) (bs := 0) (mc := 0) (ms := 0) (st := []) (As := []) (a := v0) (h' := h3) (r := none) dX12_passes_1 ml_X12_108 (ci := 11) rfl (of_decide_eq_true g4) rfl rfl (Nat.le_of_ble_eq_true rfl) (d' := 2) (by decide) (c_X12_letters (l := x.2.1) v0 h g1) ?_
  refine V_aload_n (pc := 4) (i := 0) dX12_passes_4 rfl rfl ?_
  refine V_saload_n (pc := 5) (i := 1) dX12_passes_5 rfl rfl ?_
  obtain ⟨r6, g5, e⟩ := ob_some e
  obtain ⟨g7, e⟩ := gd_some e
  refine V_callV (pc := 6) (bc := 0) (bs := 0) (mc := 0) (ms := 0) (st := []) (As := [.float v1]) (a := v0) (h' := h3) (r := some (.int r6)) dX12_passes_6 ml_X12_111 (ci := 11) rfl (of_decide_eq_true g7) rfl rfl (Nat.le_of_ble_eq_true rfl) (d' := 4) (by decide) (c_X12_isWord (l := x.2.1) v0 v1 h3 g5) ?_
  refine V_if_eq (pc := 9) (tgt := 14) dX12_passes_9 (by decide) (fun c8 => ?_) (fun c8 => ?_)
  · rw [if_pos c8] at e
    refine V_pick [0] rfl ?_
    refine V_aload_n (pc := 14) (i := 0) dX12_passes_14 rfl rfl ?_
    refine V_aload_n (pc := 15) (i := 0) dX12_passes_15 rfl rfl ?_
    refine V_getI (pc := 16) (ci := 11) (k := 9) dX12_passes_16 fl_X12_93 rfl (of_decide_eq_true g7) ?_
    refine V_putI (pc := 19) (ci := 11) (k := 7) dX12_passes_19 fp_X12_83 rfl (of_decide_eq_true g7) ?_
    refine V_iconst (pc := 22) (v := (0 : Int32)) dX12_passes_22 (by decide) ?_
    cases e
    exact V_zret (pc := 23) dX12_passes_23 rfl hF
  · rw [if_neg c8] at e
    refine V_pick [] rfl ?_
    refine V_iconst (pc := 12) (v := (1 : Int32)) dX12_passes_12 (by decide) ?_
    cases e
    exact V_zret (pc := 13) dX12_passes_13 rfl hF
def F_X12_passes (v0 : Nat) (v1 : UInt32) (h : Hp) : Option (Int32 × Hp) := F_X12_passes_b0 v0 v1 h
theorem c_X12_passes {l : Launch} (v0 : Nat) (v1 : UInt32) (h : Hp) {r : Int32} {hz : Hp} (e : F_X12_passes v0 v1 h = some (r, hz)) : Ct l yX12_passes M_X12_passes (some .boolean) 5 [.ref v0, .float v1] h 0 0 (some (.int r)) hz :=
  Ct_of rfl rfl (fun q => by cases q) (Nat.le_of_ble_eq_true rfl) (fun x _ hF => V_pick [0, 1] rfl (r_X12_passes_b0 v0 v1 h e hF))
theorem dX12_needs_0 : decode cX12_needs 0 = .ok (.aload_n 0, 1) := by decide +kernel
theorem dX12_needs_1 : decode cX12_needs 1 = .ok (.invokevirtual 108, 3) := by decide +kernel
theorem dX12_needs_4 : decode cX12_needs 4 = .ok (.aload_n 0, 1) := by decide +kernel
theorem dX12_needs_5 : decode cX12_needs 5 = .ok (.aload_n 1, 1) := by decide +kernel
theorem dX12_needs_6 : decode cX12_needs 6 = .ok (.invokevirtual 111, 3) := by decide +kernel
theorem dX12_needs_9 : decode cX12_needs 9 = .ok (.ireturn, 1) := by decide +kernel
set_option maxRecDepth 100000 in
def F_X12_needs_b0 (v0 : Nat) (v1 : UInt32) (h : Hp) : Option (Int32 × Hp) :=
  ob2 (F_X12_letters v0 h) fun _ h3 => gd (decide (kd h v0 = 11)) <| ob (F_X12_isWord v0 v1 h3) fun r6 => gd (decide (kd h3 v0 = 11)) <| gd (decide (r6 = 0 ∨ r6 = 1)) <| some (r6, h3)
set_option maxHeartbeats 4000000 in
set_option maxRecDepth 100000 in
theorem r_X12_needs_b0 (v0 : Nat) (v1 : UInt32) (h : Hp) {x : Cx} {r : Int32} {hz : Hp} (e : F_X12_needs_b0 v0 v1 h = some (r, hz)) (hF : Fin9 M_X12_needs x (some .boolean) (some (.int r)) hz) : V M_X12_needs x 5 0 [(0, .ref v0), (1, .float v1)] [] h 0 0 := by
  unfold F_X12_needs_b0 at e
  refine V_aload_n (pc := 0) (i := 0) dX12_needs_0 rfl rfl ?_
  obtain ⟨r2, h3, g1, e⟩ := ob2_some e
  obtain ⟨g4, e⟩ := gd_some e
  refine V_callV (pc := 1) (bc := 0) (bs := 0) (mc := 0) (ms := 0) (st := []) (As := []) (a := v0) (h' := h3) (r := none) dX12_needs_1 ml_X12_108 (ci := 11) rfl (of_decide_eq_true g4) rfl rfl (Nat.le_of_ble_eq_true rfl) (d' := 2) (by decide) (c_X12_letters (l := x.2.1) v0 h g1) ?_
  refine V_aload_n (pc := 4) (i := 0) dX12_needs_4 rfl rfl ?_
  refine V_saload_n (pc := 5) (i := 1) dX12_needs_5 rfl rfl ?_
  obtain ⟨r6, g5, e⟩ := ob_some e
  obtain ⟨g7, e⟩ := gd_some e
  refine V_callV (pc := 6) (bc := 0) (bs := 0) (mc := 0) (ms := 0) (st := []) (As := [.float v1]) (a := v0) (h' := h3) (r := some (.int r6)) dX12_needs_6 ml_X12_111 (ci := 11) rfl (of_decide_eq_true g7) rfl rfl (Nat.le_of_ble_eq_true rfl) (d' := 4) (by decide) (c_X12_isWord (l := x.2.1) v0 v1 h3 g5) ?_
  obtain ⟨g8, e⟩ := gd_some e
  cases e
  exact V_zret (pc := 9) dX12_needs_9 (z01 (of_decide_eq_true g8)) hF
def F_X12_needs (v0 : Nat) (v1 : UInt32) (h : Hp) : Option (Int32 × Hp) := F_X12_needs_b0 v0 v1 h
theorem c_X12_needs {l : Launch} (v0 : Nat) (v1 : UInt32) (h : Hp) {r : Int32} {hz : Hp} (e : F_X12_needs v0 v1 h = some (r, hz)) : Ct l yX12_needs M_X12_needs (some .boolean) 5 [.ref v0, .float v1] h 0 0 (some (.int r)) hz :=
  Ct_of rfl rfl (fun q => by cases q) (Nat.le_of_ble_eq_true rfl) (fun x _ hF => V_pick [0, 1] rfl (r_X12_needs_b0 v0 v1 h e hF))
theorem dX12_sign_0 : decode cX12_sign 0 = .ok (.aload_n 0, 1) := by decide +kernel
theorem dX12_sign_1 : decode cX12_sign 1 = .ok (.invokevirtual 96, 3) := by decide +kernel
theorem dX12_sign_4 : decode cX12_sign 4 = .ok (.aload_n 0, 1) := by decide +kernel
theorem dX12_sign_5 : decode cX12_sign 5 = .ok (.iload_n 1, 1) := by decide +kernel
theorem dX12_sign_6 : decode cX12_sign 6 = .ok (.iload_n 1, 1) := by decide +kernel
theorem dX12_sign_7 : decode cX12_sign 7 = .ok (.invokevirtual 89, 3) := by decide +kernel
theorem dX12_sign_10 : decode cX12_sign 10 = .ok (.ifCond .ne 5, 3) := by decide +kernel
theorem dX12_sign_13 : decode cX12_sign 13 = .ok (.iconst 0, 1) := by decide +kernel
theorem dX12_sign_14 : decode cX12_sign 14 = .ok (.ireturn, 1) := by decide +kernel
theorem dX12_sign_15 : decode cX12_sign 15 = .ok (.aload_n 0, 1) := by decide +kernel
theorem dX12_sign_16 : decode cX12_sign 16 = .ok (.dup, 1) := by decide +kernel
theorem dX12_sign_17 : decode cX12_sign 17 = .ok (.getfield 83, 3) := by decide +kernel
theorem dX12_sign_20 : decode cX12_sign 20 = .ok (.iconst 1, 1) := by decide +kernel
theorem dX12_sign_21 : decode cX12_sign 21 = .ok (.iadd, 1) := by decide +kernel
theorem dX12_sign_22 : decode cX12_sign 22 = .ok (.putfield 83, 3) := by decide +kernel
theorem dX12_sign_25 : decode cX12_sign 25 = .ok (.iconst 1, 1) := by decide +kernel
theorem dX12_sign_26 : decode cX12_sign 26 = .ok (.ireturn, 1) := by decide +kernel
set_option maxRecDepth 100000 in
def F_X12_sign_b0 (v0 : Nat) (v1 : Int32) (h : Hp) : Option (Int32 × Hp) :=
  ob2 (F_X12_blanks v0 h) fun _ h3 => gd (decide (kd h v0 = 11)) <| ob (F_X12_isAt v0 v1 v1 h3) fun r6 => gd (decide (kd h3 v0 = 11)) <| (if r6 = 0 then some ((0 : Int32), h3) else some ((1 : Int32), setI h3 v0 7 ((zI h3 v0 7) + (1 : Int32))))
set_option maxHeartbeats 4000000 in
set_option maxRecDepth 100000 in
theorem r_X12_sign_b0 (v0 : Nat) (v1 : Int32) (h : Hp) {x : Cx} {r : Int32} {hz : Hp} (e : F_X12_sign_b0 v0 v1 h = some (r, hz)) (hF : Fin9 M_X12_sign x (some .boolean) (some (.int r)) hz) : V M_X12_sign x 2 0 [(0, .ref v0), (1, .int v1)] [] h 0 0 := by
  unfold F_X12_sign_b0 at e
  refine V_aload_n (pc := 0) (i := 0) dX12_sign_0 rfl rfl ?_
  obtain ⟨r2, h3, g1, e⟩ := ob2_some e
  obtain ⟨g4, e⟩ := gd_some e
  refine V_callV (pc := 1) (bc := 0) (bs := 0) (mc := 0) (ms := 0) (st := []) (As := []) (a := v0) (h' := h3) (r := none) dX12_sign_1 ml_X12_96 (ci := 11) rfl (of_decide_eq_true g4) rfl rfl (Nat.le_of_ble_eq_true rfl) (d' := 1) (by decide) (c_X12_blanks (l := x.2.1) v0 h g1) ?_
  refine V_aload_n (pc := 4) (i := 0) dX12_sign_4 rfl rfl ?_
  refine V_iload_n (pc := 5) (i := 1) dX12_sign_5 rfl rfl ?_
  refine V_iload_n (pc := 6) (i := 1) dX12_sign_6 rfl rfl ?_
  obtain ⟨r6, g5, e⟩ := ob_some e
  obtain ⟨g7, e⟩ := gd_some e
  refine V_callV (pc := 7) (bc := 0) (bs := 0) (mc := 0) (ms := 0) (st := []) (As := [.int v1, .int v1]) (a := v0) (h' := h3) (r := some (.int r6)) dX12_sign_7 ml_X12_89 (ci := 11) rfl (of_decide_eq_true g7) rfl rfl (Nat.le_of_ble_eq_true rfl) (d' := 0) (by decide) (c_X12_isAt (l := x.2.1) v0 v1 v1 h3 g5) ?_
  refine V_if_ne (pc := 10) (tgt := 15) dX12_sign_10 (by decide) (fun c8 => ?_) (fun c8 => ?_)
  · rw [if_neg c8] at e
    refine V_pick [0] rfl ?_
    refine V_aload_n (pc := 15) (i := 0) dX12_sign_15 rfl rfl ?_
    refine V_dup (pc := 16) dX12_sign_16 rfl ?_
    refine V_getI (pc := 17) (ci := 11) (k := 7) dX12_sign_17 fl_X12_83 rfl (of_decide_eq_true g7) ?_
    refine V_iconst (pc := 20) (v := (1 : Int32)) dX12_sign_20 (by decide) ?_
    refine V_iadd (pc := 21) dX12_sign_21 ?_
    refine V_putI (pc := 22) (ci := 11) (k := 7) dX12_sign_22 fp_X12_83 rfl (of_decide_eq_true g7) ?_
    refine V_iconst (pc := 25) (v := (1 : Int32)) dX12_sign_25 (by decide) ?_
    cases e
    exact V_zret (pc := 26) dX12_sign_26 rfl hF
  · rw [if_pos c8] at e
    refine V_pick [] rfl ?_
    refine V_iconst (pc := 13) (v := (0 : Int32)) dX12_sign_13 (by decide) ?_
    cases e
    exact V_zret (pc := 14) dX12_sign_14 rfl hF
def F_X12_sign (v0 : Nat) (v1 : Int32) (h : Hp) : Option (Int32 × Hp) := F_X12_sign_b0 v0 v1 h
theorem c_X12_sign {l : Launch} (v0 : Nat) (v1 : Int32) (h : Hp) {r : Int32} {hz : Hp} (e : F_X12_sign v0 v1 h = some (r, hz)) : Ct l yX12_sign M_X12_sign (some .boolean) 2 [.ref v0, .int v1] h 0 0 (some (.int r)) hz :=
  Ct_of rfl rfl (fun q => by cases q) (Nat.le_of_ble_eq_true rfl) (fun x _ hF => V_pick [0, 1] rfl (r_X12_sign_b0 v0 v1 h e hF))
theorem dX12_number_0 : decode cX12_number 0 = .ok (.aload_n 0, 1) := by decide +kernel
theorem dX12_number_1 : decode cX12_number 1 = .ok (.invokevirtual 96, 3) := by decide +kernel
theorem dX12_number_4 : decode cX12_number 4 = .ok (.iconst 0, 1) := by decide +kernel
theorem dX12_number_5 : decode cX12_number 5 = .ok (.istore_n 3, 1) := by decide +kernel
theorem dX12_number_6 : decode cX12_number 6 = .ok (.aload_n 0, 1) := by decide +kernel
theorem dX12_number_7 : decode cX12_number 7 = .ok (.bipush 48, 2) := by decide +kernel
theorem dX12_number_9 : decode cX12_number 9 = .ok (.bipush 57, 2) := by decide +kernel
theorem dX12_number_11 : decode cX12_number 11 = .ok (.invokevirtual 89, 3) := by decide +kernel
theorem dX12_number_14 : decode cX12_number 14 = .ok (.ifCond .eq 51, 3) := by decide +kernel
theorem dX12_number_17 : decode cX12_number 17 = .ok (.aload_n 0, 1) := by decide +kernel
theorem dX12_number_18 : decode cX12_number 18 = .ok (.getfield 83, 3) := by decide +kernel
theorem dX12_number_21 : decode cX12_number 21 = .ok (.aload_n 0, 1) := by decide +kernel
theorem dX12_number_22 : decode cX12_number 22 = .ok (.getfield 93, 3) := by decide +kernel
theorem dX12_number_25 : decode cX12_number 25 = .ok (.isub, 1) := by decide +kernel
theorem dX12_number_26 : decode cX12_number 26 = .ok (.iconst 5, 1) := by decide +kernel
theorem dX12_number_27 : decode cX12_number 27 = .ok (.if_icmp .ge 23, 3) := by decide +kernel
theorem dX12_number_30 : decode cX12_number 30 = .ok (.bipush 10, 2) := by decide +kernel
theorem dX12_number_32 : decode cX12_number 32 = .ok (.iload_n 3, 1) := by decide +kernel
theorem dX12_number_33 : decode cX12_number 33 = .ok (.imul, 1) := by decide +kernel
theorem dX12_number_34 : decode cX12_number 34 = .ok (.aload_n 0, 1) := by decide +kernel
theorem dX12_number_35 : decode cX12_number 35 = .ok (.getfield 23, 3) := by decide +kernel
theorem dX12_number_38 : decode cX12_number 38 = .ok (.aload_n 0, 1) := by decide +kernel
theorem dX12_number_39 : decode cX12_number 39 = .ok (.getfield 83, 3) := by decide +kernel
theorem dX12_number_42 : decode cX12_number 42 = .ok (.baload, 1) := by decide +kernel
theorem dX12_number_43 : decode cX12_number 43 = .ok (.iadd, 1) := by decide +kernel
theorem dX12_number_44 : decode cX12_number 44 = .ok (.bipush 48, 2) := by decide +kernel
theorem dX12_number_46 : decode cX12_number 46 = .ok (.isub, 1) := by decide +kernel
theorem dX12_number_47 : decode cX12_number 47 = .ok (.goto 4, 3) := by decide +kernel
theorem dX12_number_50 : decode cX12_number 50 = .ok (.iload_n 3, 1) := by decide +kernel
theorem dX12_number_51 : decode cX12_number 51 = .ok (.istore_n 3, 1) := by decide +kernel
theorem dX12_number_52 : decode cX12_number 52 = .ok (.aload_n 0, 1) := by decide +kernel
theorem dX12_number_53 : decode cX12_number 53 = .ok (.dup, 1) := by decide +kernel
theorem dX12_number_54 : decode cX12_number 54 = .ok (.getfield 83, 3) := by decide +kernel
theorem dX12_number_57 : decode cX12_number 57 = .ok (.iconst 1, 1) := by decide +kernel
theorem dX12_number_58 : decode cX12_number 58 = .ok (.iadd, 1) := by decide +kernel
theorem dX12_number_59 : decode cX12_number 59 = .ok (.putfield 83, 3) := by decide +kernel
theorem dX12_number_62 : decode cX12_number 62 = .ok (.goto (-56), 3) := by decide +kernel
theorem dX12_number_65 : decode cX12_number 65 = .ok (.aload_n 0, 1) := by decide +kernel
theorem dX12_number_66 : decode cX12_number 66 = .ok (.getfield 83, 3) := by decide +kernel
theorem dX12_number_69 : decode cX12_number 69 = .ok (.aload_n 0, 1) := by decide +kernel
theorem dX12_number_70 : decode cX12_number 70 = .ok (.getfield 93, 3) := by decide +kernel
theorem dX12_number_73 : decode cX12_number 73 = .ok (.if_icmp .eq 26, 3) := by decide +kernel
theorem dX12_number_76 : decode cX12_number 76 = .ok (.aload_n 0, 1) := by decide +kernel
theorem dX12_number_77 : decode cX12_number 77 = .ok (.getfield 83, 3) := by decide +kernel
theorem dX12_number_80 : decode cX12_number 80 = .ok (.aload_n 0, 1) := by decide +kernel
theorem dX12_number_81 : decode cX12_number 81 = .ok (.getfield 93, 3) := by decide +kernel
theorem dX12_number_84 : decode cX12_number 84 = .ok (.isub, 1) := by decide +kernel
theorem dX12_number_85 : decode cX12_number 85 = .ok (.iconst 5, 1) := by decide +kernel
theorem dX12_number_86 : decode cX12_number 86 = .ok (.if_icmp .gt 13, 3) := by decide +kernel
theorem dX12_number_89 : decode cX12_number 89 = .ok (.iload_n 3, 1) := by decide +kernel
theorem dX12_number_90 : decode cX12_number 90 = .ok (.iload_n 1, 1) := by decide +kernel
theorem dX12_number_91 : decode cX12_number 91 = .ok (.if_icmp .lt 8, 3) := by decide +kernel
theorem dX12_number_94 : decode cX12_number 94 = .ok (.iload_n 3, 1) := by decide +kernel
theorem dX12_number_95 : decode cX12_number 95 = .ok (.iload_n 2, 1) := by decide +kernel
theorem dX12_number_96 : decode cX12_number 96 = .ok (.if_icmp .le 7, 3) := by decide +kernel
theorem dX12_number_99 : decode cX12_number 99 = .ok (.iconst (-1), 1) := by decide +kernel
theorem dX12_number_100 : decode cX12_number 100 = .ok (.goto 4, 3) := by decide +kernel
theorem dX12_number_103 : decode cX12_number 103 = .ok (.iload_n 3, 1) := by decide +kernel
theorem dX12_number_104 : decode cX12_number 104 = .ok (.ireturn, 1) := by decide +kernel
set_option maxRecDepth 100000 in
def F_X12_number_b51 (v0 : Nat) (v1 : Int32) (v2 : Int32) (t0 : Int32) (h : Hp) : Option ((Int32 × Hp) ⊕ (Int32 × Hp)) :=
  gd (decide (kd h v0 = 11)) <| some (.inl (t0, setI h v0 7 ((zI h v0 7) + (1 : Int32))))
set_option maxHeartbeats 4000000 in
set_option maxRecDepth 100000 in
theorem r_X12_number_b51 (v0 : Nat) (v1 : Int32) (v2 : Int32) (t0 : Int32) (h : Hp) {x : Cx} {o : ((Int32 × Hp) ⊕ (Int32 × Hp))} (e : F_X12_number_b51 v0 v1 v2 t0 h = some o) (kI : ∀ z, o = .inl z → V M_X12_number x 2 6 [(0, .ref v0), (1, .int v1), (2, .int v2), (3, .int z.1)] [] z.2 0 0) (kE65 : ∀ z : Int32 × Hp, o = .inr z → V M_X12_number x 2 65 [(0, .ref v0), (1, .int v1), (2, .int v2), (3, .int z.1)] [] z.2 0 0) : V M_X12_number x 2 51 [(0, .ref v0), (1, .int v1), (2, .int v2)] [.int t0] h 0 0 := by
  unfold F_X12_number_b51 at e
  refine V_istore_n (pc := 51) (i := 3) (lv' := [(3, .int t0), (0, .ref v0), (1, .int v1), (2, .int v2)]) dX12_number_51 rfl (by decide) rfl ?_
  refine V_aload_n (pc := 52) (i := 0) dX12_number_52 rfl rfl ?_
  refine V_dup (pc := 53) dX12_number_53 rfl ?_
  obtain ⟨g8, e⟩ := gd_some e
  refine V_getI (pc := 54) (ci := 11) (k := 7) dX12_number_54 fl_X12_83 rfl (of_decide_eq_true g8) ?_
  refine V_iconst (pc := 57) (v := (1 : Int32)) dX12_number_57 (by decide) ?_
  refine V_iadd (pc := 58) dX12_number_58 ?_
  refine V_putI (pc := 59) (ci := 11) (k := 7) dX12_number_59 fp_X12_83 rfl (of_decide_eq_true g8) ?_
  refine V_goto (pc := 62) (tgt := 6) dX12_number_62 (by decide) ?_
  cases e
  exact V_pick [1, 2, 3, 0] rfl (kI (t0, setI h v0 7 ((zI h v0 7) + (1 : Int32))) rfl)
set_option maxRecDepth 100000 in
def F_X12_number_l6 (v0 : Nat) (v1 : Int32) (v2 : Int32) (v3 : Int32) (h : Hp) : Option ((Int32 × Hp) ⊕ (Int32 × Hp)) :=
  ob (F_X12_isAt v0 (48 : Int32) (57 : Int32) h) fun r6 => gd (decide (kd h v0 = 11)) <| (if r6 = 0 then some (.inr (v3, h)) else (if (5 : Int32) ≤ ((zI h v0 7) - (zI h v0 9)) then F_X12_number_b51 v0 v1 v2 v3 h else ob (zR h v0 5) fun q9 => gd (decide (kd h q9 = 12)) <| gd (ix (zI h v0 7) (zl h q9)) <| F_X12_number_b51 v0 v1 v2 ((((10 : Int32) * v3) + (zI h q9 (zI h v0 7).toNatClampNeg)) - (48 : Int32)) h))
set_option maxHeartbeats 4000000 in
set_option maxRecDepth 100000 in
theorem r_X12_number_l6 (v0 : Nat) (v1 : Int32) (v2 : Int32) (v3 : Int32) (h : Hp) {x : Cx} {o : ((Int32 × Hp) ⊕ (Int32 × Hp))} (e : F_X12_number_l6 v0 v1 v2 v3 h = some o) (kI : ∀ z, o = .inl z → V M_X12_number x 2 6 [(0, .ref v0), (1, .int v1), (2, .int v2), (3, .int z.1)] [] z.2 0 0) (kE65 : ∀ z : Int32 × Hp, o = .inr z → V M_X12_number x 2 65 [(0, .ref v0), (1, .int v1), (2, .int v2), (3, .int z.1)] [] z.2 0 0) : V M_X12_number x 2 6 [(0, .ref v0), (1, .int v1), (2, .int v2), (3, .int v3)] [] h 0 0 := by
  unfold F_X12_number_l6 at e
  refine V_aload_n (pc := 6) (i := 0) dX12_number_6 rfl rfl ?_
  refine V_bipush (pc := 7) (v := (48 : Int32)) dX12_number_7 (by decide) ?_
  refine V_bipush (pc := 9) (v := (57 : Int32)) dX12_number_9 (by decide) ?_
  obtain ⟨r6, g5, e⟩ := ob_some e
  obtain ⟨g7, e⟩ := gd_some e
  refine V_callV (pc := 11) (bc := 0) (bs := 0) (mc := 0) (ms := 0) (st := []) (As := [.int (48 : Int32), .int (57 : Int32)]) (a := v0) (h' := h) (r := some (.int r6)) dX12_number_11 ml_X12_89 (ci := 11) rfl (of_decide_eq_true g7) rfl rfl (Nat.le_of_ble_eq_true rfl) (d' := 0) (by decide) (c_X12_isAt (l := x.2.1) v0 (48 : Int32) (57 : Int32) h g5) ?_
  refine V_if_eq (pc := 14) (tgt := 65) dX12_number_14 (by decide) (fun c14 => ?_) (fun c14 => ?_)
  · rw [if_pos c14] at e
    cases e
    exact V_pick [0, 1, 2, 3] rfl (kE65 (v3, h) rfl)
  · rw [if_neg c14] at e
    refine V_pick [0, 1, 2, 3] rfl ?_
    refine V_aload_n (pc := 17) (i := 0) dX12_number_17 rfl rfl ?_
    refine V_getI (pc := 18) (ci := 11) (k := 7) dX12_number_18 fl_X12_83 rfl (of_decide_eq_true g7) ?_
    refine V_aload_n (pc := 21) (i := 0) dX12_number_21 rfl rfl ?_
    refine V_getI (pc := 22) (ci := 11) (k := 9) dX12_number_22 fl_X12_93 rfl (of_decide_eq_true g7) ?_
    refine V_isub (pc := 25) dX12_number_25 ?_
    refine V_iconst (pc := 26) (v := (5 : Int32)) dX12_number_26 (by decide) ?_
    refine V_icmp_ge (pc := 27) (tgt := 50) dX12_number_27 (by decide) (fun c13 => ?_) (fun c13 => ?_)
    · rw [if_pos c13] at e
      refine V_pick [0, 1, 2, 3] rfl ?_
      refine V_iload_n (pc := 50) (i := 3) dX12_number_50 rfl rfl ?_
      exact V_pick [0, 1, 2] rfl (r_X12_number_b51 v0 v1 v2 v3 h e kI kE65)
    · rw [if_neg c13] at e
      refine V_pick [0, 1, 2, 3] rfl ?_
      refine V_bipush (pc := 30) (v := (10 : Int32)) dX12_number_30 (by decide) ?_
      refine V_iload_n (pc := 32) (i := 3) dX12_number_32 rfl rfl ?_
      refine V_imul (pc := 33) dX12_number_33 ?_
      refine V_aload_n (pc := 34) (i := 0) dX12_number_34 rfl rfl ?_
      obtain ⟨q9, g10, e⟩ := ob_some e
      refine V_getR (pc := 35) (ci := 11) (k := 5) (b := q9) dX12_number_35 fl_X12_23 rfl (of_decide_eq_true g7) g10 ?_
      refine V_aload_n (pc := 38) (i := 0) dX12_number_38 rfl rfl ?_
      refine V_getI (pc := 39) (ci := 11) (k := 7) dX12_number_39 fl_X12_83 rfl (of_decide_eq_true g7) ?_
      obtain ⟨g11, e⟩ := gd_some e
      obtain ⟨g12, e⟩ := gd_some e
      refine V_bald (pc := 42) dX12_number_42 (of_decide_eq_true g11) (ix_in g12) ?_
      refine V_iadd (pc := 43) dX12_number_43 ?_
      refine V_bipush (pc := 44) (v := (48 : Int32)) dX12_number_44 (by decide) ?_
      refine V_isub (pc := 46) dX12_number_46 ?_
      refine V_goto (pc := 47) (tgt := 51) dX12_number_47 (by decide) ?_
      exact V_pick [0, 1, 2] rfl (r_X12_number_b51 v0 v1 v2 ((((10 : Int32) * v3) + (zI h q9 (zI h v0 7).toNatClampNeg)) - (48 : Int32)) h e kI kE65)
set_option maxRecDepth 100000 in
def F_X12_number_b104 (t0 : Int32) (h : Hp) : Option (Int32 × Hp) :=
  some (t0, h)
set_option maxHeartbeats 4000000 in
set_option maxRecDepth 100000 in
theorem r_X12_number_b104 (t0 : Int32) (h : Hp) {x : Cx} {r : Int32} {hz : Hp} (e : F_X12_number_b104 t0 h = some (r, hz)) (hF : Fin9 M_X12_number x (some .int) (some (.int r)) hz) : V M_X12_number x 2 104 [] [.int t0] h 0 0 := by
  unfold F_X12_number_b104 at e
  cases e
  exact V_iret (pc := 104) dX12_number_104 hF
set_option maxRecDepth 100000 in
def F_X12_number_b99  (h : Hp) : Option (Int32 × Hp) :=
  F_X12_number_b104 (-1 : Int32) h
set_option maxHeartbeats 4000000 in
set_option maxRecDepth 100000 in
theorem r_X12_number_b99  (h : Hp) {x : Cx} {r : Int32} {hz : Hp} (e : F_X12_number_b99  h = some (r, hz)) (hF : Fin9 M_X12_number x (some .int) (some (.int r)) hz) : V M_X12_number x 2 99 [] [] h 0 0 := by
  unfold F_X12_number_b99 at e
  refine V_iconst (pc := 99) (v := (-1 : Int32)) dX12_number_99 (by decide) ?_
  refine V_goto (pc := 100) (tgt := 104) dX12_number_100 (by decide) ?_
  exact V_pick [] rfl (r_X12_number_b104 (-1 : Int32) h e hF)
set_option maxRecDepth 100000 in
def F_X12_number_b0 (v0 : Nat) (v1 : Int32) (v2 : Int32) (h : Hp) : Option (Int32 × Hp) :=
  ob2 (F_X12_blanks v0 h) fun _ h3 => gd (decide (kd h v0 = 11)) <| ob (iter (fun z : Int32 × Hp => F_X12_number_l6 v0 v1 v2 z.1 z.2) FU ((0 : Int32), h3)) (fun z => un2 z fun w15 h16 => gd (decide (kd h16 v0 = 11)) <| (if (zI h16 v0 7) = (zI h16 v0 9) then F_X12_number_b99 h16 else (if (5 : Int32) < ((zI h16 v0 7) - (zI h16 v0 9)) then F_X12_number_b99 h16 else (if w15 < v1 then F_X12_number_b99 h16 else (if w15 ≤ v2 then F_X12_number_b104 w15 h16 else F_X12_number_b99 h16)))))
set_option maxHeartbeats 4000000 in
set_option maxRecDepth 100000 in
theorem r_X12_number_b0 (v0 : Nat) (v1 : Int32) (v2 : Int32) (h : Hp) {x : Cx} {r : Int32} {hz : Hp} (e : F_X12_number_b0 v0 v1 v2 h = some (r, hz)) (hF : Fin9 M_X12_number x (some .int) (some (.int r)) hz) : V M_X12_number x 2 0 [(0, .ref v0), (1, .int v1), (2, .int v2)] [] h 0 0 := by
  unfold F_X12_number_b0 at e
  refine V_aload_n (pc := 0) (i := 0) dX12_number_0 rfl rfl ?_
  obtain ⟨r2, h3, g1, e⟩ := ob2_some e
  obtain ⟨g4, e⟩ := gd_some e
  refine V_callV (pc := 1) (bc := 0) (bs := 0) (mc := 0) (ms := 0) (st := []) (As := []) (a := v0) (h' := h3) (r := none) dX12_number_1 ml_X12_96 (ci := 11) rfl (of_decide_eq_true g4) rfl rfl (Nat.le_of_ble_eq_true rfl) (d' := 1) (by decide) (c_X12_blanks (l := x.2.1) v0 h g1) ?_
  refine V_iconst (pc := 4) (v := (0 : Int32)) dX12_number_4 (by decide) ?_
  refine V_istore_n (pc := 5) (i := 3) (lv' := [(3, .int (0 : Int32)), (0, .ref v0), (1, .int v1), (2, .int v2)]) dX12_number_5 rfl (by decide) rfl ?_
  refine V_pick [1, 2, 3, 0] rfl ?_
  obtain ⟨y22, g23, e⟩ := ob_some e
  refine iter_V (P := fun z : Int32 × Hp => V M_X12_number x 2 6 [(0, .ref v0), (1, .int v1), (2, .int v2), (3, .int z.1)] [] z.2 0 0) (E := fun z : Int32 × Hp => V M_X12_number x 2 65 [(0, .ref v0), (1, .int v1), (2, .int v2), (3, .int z.1)] [] z.2 0 0) (fun z o e9 k1 k2 => r_X12_number_l6 v0 v1 v2 z.1 z.2 e9 (fun z hz9 => k1 z hz9) (fun z hz9 => k2 _ hz9)) _ _ _ g23 ?_
  clear g23
  obtain ⟨w15, h16⟩ := y22
  replace e : (gd (decide (kd h16 v0 = 11)) <| (if (zI h16 v0 7) = (zI h16 v0 9) then F_X12_number_b99 h16 else (if (5 : Int32) < ((zI h16 v0 7) - (zI h16 v0 9)) then F_X12_number_b99 h16 else (if w15 < v1 then F_X12_number_b99 h16 else (if w15 ≤ v2 then F_X12_number_b104 w15 h16 else F_X12_number_b99 h16))))) = some (r, hz) := e
  show V M_X12_number x 2 65 [(0, .ref v0), (1, .int v1), (2, .int v2), (3, .int w15)] [] h16 0 0
  refine V_aload_n (pc := 65) (i := 0) dX12_number_65 rfl rfl ?_
  obtain ⟨g17, e⟩ := gd_some e
  refine V_getI (pc := 66) (ci := 11) (k := 7) dX12_number_66 fl_X12_83 rfl (of_decide_eq_true g17) ?_
  refine V_aload_n (pc := 69) (i := 0) dX12_number_69 rfl rfl ?_
  refine V_getI (pc := 70) (ci := 11) (k := 9) dX12_number_70 fl_X12_93 rfl (of_decide_eq_true g17) ?_
  refine V_icmp_eq (pc := 73) (tgt := 99) dX12_number_73 (by decide) (fun c21 => ?_) (fun c21 => ?_)
  · rw [if_pos c21] at e
    exact V_pick [] rfl (r_X12_number_b99 h16 e hF)
  · rw [if_neg c21] at e
    refine V_pick [0, 1, 2, 3] rfl ?_
    refine V_aload_n (pc := 76) (i := 0) dX12_number_76 rfl rfl ?_
    refine V_getI (pc := 77) (ci := 11) (k := 7) dX12_number_77 fl_X12_83 rfl (of_decide_eq_true g17) ?_
    refine V_aload_n (pc := 80) (i := 0) dX12_number_80 rfl rfl ?_
    refine V_getI (pc := 81) (ci := 11) (k := 9) dX12_number_81 fl_X12_93 rfl (of_decide_eq_true g17) ?_
    refine V_isub (pc := 84) dX12_number_84 ?_
    refine V_iconst (pc := 85) (v := (5 : Int32)) dX12_number_85 (by decide) ?_
    refine V_icmp_gt (pc := 86) (tgt := 99) dX12_number_86 (by decide) (fun c20 => ?_) (fun c20 => ?_)
    · rw [if_pos c20] at e
      exact V_pick [] rfl (r_X12_number_b99 h16 e hF)
    · rw [if_neg c20] at e
      refine V_pick [1, 2, 3] rfl ?_
      refine V_iload_n (pc := 89) (i := 3) dX12_number_89 rfl rfl ?_
      refine V_iload_n (pc := 90) (i := 1) dX12_number_90 rfl rfl ?_
      refine V_icmp_lt (pc := 91) (tgt := 99) dX12_number_91 (by decide) (fun c19 => ?_) (fun c19 => ?_)
      · rw [if_pos c19] at e
        exact V_pick [] rfl (r_X12_number_b99 h16 e hF)
      · rw [if_neg c19] at e
        refine V_pick [1, 2] rfl ?_
        refine V_iload_n (pc := 94) (i := 3) dX12_number_94 rfl rfl ?_
        refine V_iload_n (pc := 95) (i := 2) dX12_number_95 rfl rfl ?_
        refine V_icmp_le (pc := 96) (tgt := 103) dX12_number_96 (by decide) (fun c18 => ?_) (fun c18 => ?_)
        · rw [if_pos c18] at e
          refine V_pick [1] rfl ?_
          refine V_iload_n (pc := 103) (i := 3) dX12_number_103 rfl rfl ?_
          exact V_pick [] rfl (r_X12_number_b104 w15 h16 e hF)
        · rw [if_neg c18] at e
          exact V_pick [] rfl (r_X12_number_b99 h16 e hF)
def F_X12_number (v0 : Nat) (v1 : Int32) (v2 : Int32) (h : Hp) : Option (Int32 × Hp) := F_X12_number_b0 v0 v1 v2 h
theorem c_X12_number {l : Launch} (v0 : Nat) (v1 : Int32) (v2 : Int32) (h : Hp) {r : Int32} {hz : Hp} (e : F_X12_number v0 v1 v2 h = some (r, hz)) : Ct l yX12_number M_X12_number (some .int) 2 [.ref v0, .int v1, .int v2] h 0 0 (some (.int r)) hz :=
  Ct_of rfl rfl (fun q => by cases q) (Nat.le_of_ble_eq_true rfl) (fun x _ hF => V_pick [0, 1, 2] rfl (r_X12_number_b0 v0 v1 v2 h e hF))
theorem dX12_fault_0 : decode cX12_fault 0 = .ok (.aload_n 0, 1) := by decide +kernel
theorem dX12_fault_1 : decode cX12_fault 1 = .ok (.iconst 0, 1) := by decide +kernel
theorem dX12_fault_2 : decode cX12_fault 2 = .ok (.putfield 3, 3) := by decide +kernel
theorem dX12_fault_5 : decode cX12_fault 5 = .ok (.aload_n 0, 1) := by decide +kernel
theorem dX12_fault_6 : decode cX12_fault 6 = .ok (.getfield 27, 3) := by decide +kernel
theorem dX12_fault_9 : decode cX12_fault 9 = .ok (.ireturn, 1) := by decide +kernel
set_option maxRecDepth 100000 in
def F_X12_fault_b0 (v0 : Nat) (h : Hp) : Option (Int32 × Hp) :=
  gd (decide (kd h v0 = 11)) <| some (zI (setI h v0 0 (0 : Int32)) v0 11, setI h v0 0 (0 : Int32))
set_option maxHeartbeats 4000000 in
set_option maxRecDepth 100000 in
theorem r_X12_fault_b0 (v0 : Nat) (h : Hp) {x : Cx} {r : Int32} {hz : Hp} (e : F_X12_fault_b0 v0 h = some (r, hz)) (hF : Fin9 M_X12_fault x (some .int) (some (.int r)) hz) : V M_X12_fault x 0 0 [(0, .ref v0)] [] h 0 0 := by
  unfold F_X12_fault_b0 at e
  refine V_aload_n (pc := 0) (i := 0) dX12_fault_0 rfl rfl ?_
  refine V_iconst (pc := 1) (v := (0 : Int32)) dX12_fault_1 (by decide) ?_
  obtain ⟨g1, e⟩ := gd_some e
  refine V_putI (pc := 2) (ci := 11) (k := 0) dX12_fault_2 fp_X12_3 rfl (of_decide_eq_true g1) ?_
  refine V_aload_n (pc := 5) (i := 0) dX12_fault_5 rfl rfl ?_
  refine V_getI (pc := 6) (ci := 11) (k := 11) dX12_fault_6 fl_X12_27 rfl (kd_sI (of_decide_eq_true g1)) ?_
  cases e
  exact V_iret (pc := 9) dX12_fault_9 hF
def F_X12_fault (v0 : Nat) (h : Hp) : Option (Int32 × Hp) := F_X12_fault_b0 v0 h
theorem c_X12_fault {l : Launch} (v0 : Nat) (h : Hp) {r : Int32} {hz : Hp} (e : F_X12_fault v0 h = some (r, hz)) : Ct l yX12_fault M_X12_fault (some .int) 0 [.ref v0] h 0 0 (some (.int r)) hz :=
  Ct_of rfl rfl (fun q => by cases q) (Nat.le_of_ble_eq_true rfl) (fun x _ hF => V_pick [0] rfl (r_X12_fault_b0 v0 h e hF))
theorem dX12_sets_0 : decode cX12_sets 0 = .ok (.aload_n 0, 1) := by decide +kernel
theorem dX12_sets_1 : decode cX12_sets 1 = .ok (.getfield 13, 3) := by decide +kernel
theorem dX12_sets_4 : decode cX12_sets 4 = .ok (.iload_n 1, 1) := by decide +kernel
theorem dX12_sets_5 : decode cX12_sets 5 = .ok (.iload_n 2, 1) := by decide +kernel
theorem dX12_sets_6 : decode cX12_sets 6 = .ok (.iastore, 1) := by decide +kernel
theorem dX12_sets_7 : decode cX12_sets 7 = .ok (.iload_n 2, 1) := by decide +kernel
theorem dX12_sets_8 : decode cX12_sets 8 = .ok (.ifCond .lt 7, 3) := by decide +kernel
theorem dX12_sets_11 : decode cX12_sets 11 = .ok (.iconst 1, 1) := by decide +kernel
theorem dX12_sets_12 : decode cX12_sets 12 = .ok (.goto 4, 3) := by decide +kernel
theorem dX12_sets_15 : decode cX12_sets 15 = .ok (.iconst 0, 1) := by decide +kernel
theorem dX12_sets_16 : decode cX12_sets 16 = .ok (.ireturn, 1) := by decide +kernel
set_option maxRecDepth 100000 in
def F_X12_sets_b16 (t0 : Int32) (h : Hp) : Option (Int32 × Hp) :=
  gd (decide (t0 = 0 ∨ t0 = 1)) <| some (t0, h)
set_option maxHeartbeats 4000000 in
set_option maxRecDepth 100000 in
theorem r_X12_sets_b16 (t0 : Int32) (h : Hp) {x : Cx} {r : Int32} {hz : Hp} (e : F_X12_sets_b16 t0 h = some (r, hz)) (hF : Fin9 M_X12_sets x (some .boolean) (some (.int r)) hz) : V M_X12_sets x 0 16 [] [.int t0] h 0 0 := by
  unfold F_X12_sets_b16 at e
  obtain ⟨g6, e⟩ := gd_some e
  cases e
  exact V_zret (pc := 16) dX12_sets_16 (z01 (of_decide_eq_true g6)) hF
set_option maxRecDepth 100000 in
def F_X12_sets_b0 (v0 : Nat) (v1 : Int32) (v2 : Int32) (h : Hp) : Option (Int32 × Hp) :=
  gd (decide (kd h v0 = 11)) <| ob (zR h v0 1) fun q2 => gd (decide (kd h q2 = 13)) <| gd (ix v1 (zl h q2)) <| (if v2 < 0 then F_X12_sets_b16 (0 : Int32) (setI h q2 (v1).toNatClampNeg v2) else F_X12_sets_b16 (1 : Int32) (setI h q2 (v1).toNatClampNeg v2))
set_option maxHeartbeats 4000000 in
set_option maxRecDepth 100000 in
theorem r_X12_sets_b0 (v0 : Nat) (v1 : Int32) (v2 : Int32) (h : Hp) {x : Cx} {r : Int32} {hz : Hp} (e : F_X12_sets_b0 v0 v1 v2 h = some (r, hz)) (hF : Fin9 M_X12_sets x (some .boolean) (some (.int r)) hz) : V M_X12_sets x 0 0 [(0, .ref v0), (1, .int v1), (2, .int v2)] [] h 0 0 := by
  unfold F_X12_sets_b0 at e
  refine V_aload_n (pc := 0) (i := 0) dX12_sets_0 rfl rfl ?_
  obtain ⟨g1, e⟩ := gd_some e
  obtain ⟨q2, g3, e⟩ := ob_some e
  refine V_getR (pc := 1) (ci := 11) (k := 1) (b := q2) dX12_sets_1 fl_X12_13 rfl (of_decide_eq_true g1) g3 ?_
  refine V_iload_n (pc := 4) (i := 1) dX12_sets_4 rfl rfl ?_
  refine V_iload_n (pc := 5) (i := 2) dX12_sets_5 rfl rfl ?_
  obtain ⟨g4, e⟩ := gd_some e
  obtain ⟨g5, e⟩ := gd_some e
  refine V_iast (pc := 6) dX12_sets_6 (of_decide_eq_true g4) (ix_in g5) ?_
  refine V_iload_n (pc := 7) (i := 2) dX12_sets_7 rfl rfl ?_
  refine V_if_lt (pc := 8) (tgt := 15) dX12_sets_8 (by decide) (fun c7 => ?_) (fun c7 => ?_)
  · rw [if_pos c7] at e
    refine V_pick [] rfl ?_
    refine V_iconst (pc := 15) (v := (0 : Int32)) dX12_sets_15 (by decide) ?_
    exact V_pick [] rfl (r_X12_sets_b16 (0 : Int32) (setI h q2 (v1).toNatClampNeg v2) e hF)
  · rw [if_neg c7] at e
    refine V_pick [] rfl ?_
    refine V_iconst (pc := 11) (v := (1 : Int32)) dX12_sets_11 (by decide) ?_
    refine V_goto (pc := 12) (tgt := 16) dX12_sets_12 (by decide) ?_
    exact V_pick [] rfl (r_X12_sets_b16 (1 : Int32) (setI h q2 (v1).toNatClampNeg v2) e hF)
def F_X12_sets (v0 : Nat) (v1 : Int32) (v2 : Int32) (h : Hp) : Option (Int32 × Hp) := F_X12_sets_b0 v0 v1 v2 h
theorem c_X12_sets {l : Launch} (v0 : Nat) (v1 : Int32) (v2 : Int32) (h : Hp) {r : Int32} {hz : Hp} (e : F_X12_sets v0 v1 v2 h = some (r, hz)) : Ct l yX12_sets M_X12_sets (some .boolean) 0 [.ref v0, .int v1, .int v2] h 0 0 (some (.int r)) hz :=
  Ct_of rfl rfl (fun q => by cases q) (Nat.le_of_ble_eq_true rfl) (fun x _ hF => V_pick [0, 1, 2] rfl (r_X12_sets_b0 v0 v1 v2 h e hF))
theorem dX12_roomTold_0 : decode cX12_roomTold 0 = .ok (.aload_n 0, 1) := by decide +kernel
theorem dX12_roomTold_1 : decode cX12_roomTold 1 = .ok (.iconst 0, 1) := by decide +kernel
theorem dX12_roomTold_2 : decode cX12_roomTold 2 = .ok (.aload_n 0, 1) := by decide +kernel
theorem dX12_roomTold_3 : decode cX12_roomTold 3 = .ok (.invokevirtual 60, 3) := by decide +kernel
theorem dX12_roomTold_6 : decode cX12_roomTold 6 = .ok (.iconst 1, 1) := by decide +kernel
theorem dX12_roomTold_7 : decode cX12_roomTold 7 = .ok (.isub, 1) := by decide +kernel
theorem dX12_roomTold_8 : decode cX12_roomTold 8 = .ok (.invokevirtual 115, 3) := by decide +kernel
theorem dX12_roomTold_11 : decode cX12_roomTold 11 = .ok (.ireturn, 1) := by decide +kernel
set_option maxRecDepth 100000 in
def F_X12_roomTold_b0 (v0 : Nat) (h : Hp) : Option (Int32 × Hp) :=
  ob (F_X12_rooms v0 h) fun r2 => gd (decide (kd h v0 = 11)) <| ob2 (F_X12_number v0 (0 : Int32) (r2 - (1 : Int32)) h) fun r5 h6 => some (r5, h6)
set_option maxHeartbeats 4000000 in
set_option maxRecDepth 100000 in
theorem r_X12_roomTold_b0 (v0 : Nat) (h : Hp) {x : Cx} {r : Int32} {hz : Hp} (e : F_X12_roomTold_b0 v0 h = some (r, hz)) (hF : Fin9 M_X12_roomTold x (some .int) (some (.int r)) hz) : V M_X12_roomTold x 3 0 [(0, .ref v0)] [] h 0 0 := by
  unfold F_X12_roomTold_b0 at e
  refine V_aload_n (pc := 0) (i := 0) dX12_roomTold_0 rfl rfl ?_
  refine V_iconst (pc := 1) (v := (0 : Int32)) dX12_roomTold_1 (by decide) ?_
  refine V_aload_n (pc := 2) (i := 0) dX12_roomTold_2 rfl rfl ?_
  obtain ⟨r2, g1, e⟩ := ob_some e
  obtain ⟨g3, e⟩ := gd_some e
  refine V_callV (pc := 3) (bc := 0) (bs := 0) (mc := 0) (ms := 0) (st := [.int (0 : Int32), .ref v0]) (As := []) (a := v0) (h' := h) (r := some (.int r2)) dX12_roomTold_3 ml_X12_60 (ci := 11) rfl (of_decide_eq_true g3) rfl rfl (Nat.le_of_ble_eq_true rfl) (d' := 0) (by decide) (c_X12_rooms (l := x.2.1) v0 h g1) ?_
  refine V_iconst (pc := 6) (v := (1 : Int32)) dX12_roomTold_6 (by decide) ?_
  refine V_isub (pc := 7) dX12_roomTold_7 ?_
  obtain ⟨r5, h6, g4, e⟩ := ob2_some e
  refine V_callV (pc := 8) (bc := 0) (bs := 0) (mc := 0) (ms := 0) (st := []) (As := [.int (0 : Int32), .int (r2 - (1 : Int32))]) (a := v0) (h' := h6) (r := some (.int r5)) dX12_roomTold_8 ml_X12_115 (ci := 11) rfl (of_decide_eq_true g3) rfl rfl (Nat.le_of_ble_eq_true rfl) (d' := 2) (by decide) (c_X12_number (l := x.2.1) v0 (0 : Int32) (r2 - (1 : Int32)) h g4) ?_
  cases e
  exact V_iret (pc := 11) dX12_roomTold_11 hF
def F_X12_roomTold (v0 : Nat) (h : Hp) : Option (Int32 × Hp) := F_X12_roomTold_b0 v0 h
theorem c_X12_roomTold {l : Launch} (v0 : Nat) (h : Hp) {r : Int32} {hz : Hp} (e : F_X12_roomTold v0 h = some (r, hz)) : Ct l yX12_roomTold M_X12_roomTold (some .int) 3 [.ref v0] h 0 0 (some (.int r)) hz :=
  Ct_of rfl rfl (fun q => by cases q) (Nat.le_of_ble_eq_true rfl) (fun x _ hF => V_pick [0] rfl (r_X12_roomTold_b0 v0 h e hF))
theorem dX12_readRoom_0 : decode cX12_readRoom 0 = .ok (.aload_n 0, 1) := by decide +kernel
theorem dX12_readRoom_1 : decode cX12_readRoom 1 = .ok (.invokevirtual 60, 3) := by decide +kernel
theorem dX12_readRoom_4 : decode cX12_readRoom 4 = .ok (.bipush 8, 2) := by decide +kernel
theorem dX12_readRoom_6 : decode cX12_readRoom 6 = .ok (.if_icmp .ne 5, 3) := by decide +kernel
theorem dX12_readRoom_9 : decode cX12_readRoom 9 = .ok (.iconst 0, 1) := by decide +kernel
theorem dX12_readRoom_10 : decode cX12_readRoom 10 = .ok (.ireturn, 1) := by decide +kernel
theorem dX12_readRoom_11 : decode cX12_readRoom 11 = .ok (.bipush 11, 2) := by decide +kernel
theorem dX12_readRoom_13 : decode cX12_readRoom 13 = .ok (.iconst 4, 1) := by decide +kernel
theorem dX12_readRoom_14 : decode cX12_readRoom 14 = .ok (.aload_n 0, 1) := by decide +kernel
theorem dX12_readRoom_15 : decode cX12_readRoom 15 = .ok (.invokevirtual 60, 3) := by decide +kernel
theorem dX12_readRoom_18 : decode cX12_readRoom 18 = .ok (.imul, 1) := by decide +kernel
theorem dX12_readRoom_19 : decode cX12_readRoom 19 = .ok (.iadd, 1) := by decide +kernel
theorem dX12_readRoom_20 : decode cX12_readRoom 20 = .ok (.istore_n 1, 1) := by decide +kernel
theorem dX12_readRoom_21 : decode cX12_readRoom 21 = .ok (.aload_n 0, 1) := by decide +kernel
theorem dX12_readRoom_22 : decode cX12_readRoom 22 = .ok (.iload_n 1, 1) := by decide +kernel
theorem dX12_readRoom_23 : decode cX12_readRoom 23 = .ok (.iconst 0, 1) := by decide +kernel
theorem dX12_readRoom_24 : decode cX12_readRoom 24 = .ok (.iadd, 1) := by decide +kernel
theorem dX12_readRoom_25 : decode cX12_readRoom 25 = .ok (.aload_n 0, 1) := by decide +kernel
theorem dX12_readRoom_26 : decode cX12_readRoom 26 = .ok (.iconst 0, 1) := by decide +kernel
theorem dX12_readRoom_27 : decode cX12_readRoom 27 = .ok (.bipush 9, 2) := by decide +kernel
theorem dX12_readRoom_29 : decode cX12_readRoom 29 = .ok (.invokevirtual 115, 3) := by decide +kernel
theorem dX12_readRoom_32 : decode cX12_readRoom 32 = .ok (.invokevirtual 119, 3) := by decide +kernel
theorem dX12_readRoom_35 : decode cX12_readRoom 35 = .ok (.ifCond .eq 36, 3) := by decide +kernel
theorem dX12_readRoom_38 : decode cX12_readRoom 38 = .ok (.aload_n 0, 1) := by decide +kernel
theorem dX12_readRoom_39 : decode cX12_readRoom 39 = .ok (.iload_n 1, 1) := by decide +kernel
theorem dX12_readRoom_40 : decode cX12_readRoom 40 = .ok (.iconst 1, 1) := by decide +kernel
theorem dX12_readRoom_41 : decode cX12_readRoom 41 = .ok (.iadd, 1) := by decide +kernel
theorem dX12_readRoom_42 : decode cX12_readRoom 42 = .ok (.aload_n 0, 1) := by decide +kernel
theorem dX12_readRoom_43 : decode cX12_readRoom 43 = .ok (.iconst 0, 1) := by decide +kernel
theorem dX12_readRoom_44 : decode cX12_readRoom 44 = .ok (.bipush 9, 2) := by decide +kernel
theorem dX12_readRoom_46 : decode cX12_readRoom 46 = .ok (.invokevirtual 115, 3) := by decide +kernel
theorem dX12_readRoom_49 : decode cX12_readRoom 49 = .ok (.invokevirtual 119, 3) := by decide +kernel
theorem dX12_readRoom_52 : decode cX12_readRoom 52 = .ok (.ifCond .eq 19, 3) := by decide +kernel
theorem dX12_readRoom_55 : decode cX12_readRoom 55 = .ok (.aload_n 0, 1) := by decide +kernel
theorem dX12_readRoom_56 : decode cX12_readRoom 56 = .ok (.iload_n 1, 1) := by decide +kernel
theorem dX12_readRoom_57 : decode cX12_readRoom 57 = .ok (.iconst 2, 1) := by decide +kernel
theorem dX12_readRoom_58 : decode cX12_readRoom 58 = .ok (.iadd, 1) := by decide +kernel
theorem dX12_readRoom_59 : decode cX12_readRoom 59 = .ok (.aload_n 0, 1) := by decide +kernel
theorem dX12_readRoom_60 : decode cX12_readRoom 60 = .ok (.iconst 1, 1) := by decide +kernel
theorem dX12_readRoom_61 : decode cX12_readRoom 61 = .ok (.iconst 4, 1) := by decide +kernel
theorem dX12_readRoom_62 : decode cX12_readRoom 62 = .ok (.invokevirtual 115, 3) := by decide +kernel
theorem dX12_readRoom_65 : decode cX12_readRoom 65 = .ok (.invokevirtual 119, 3) := by decide +kernel
theorem dX12_readRoom_68 : decode cX12_readRoom 68 = .ok (.ifCond .ne 5, 3) := by decide +kernel
theorem dX12_readRoom_71 : decode cX12_readRoom 71 = .ok (.iconst 0, 1) := by decide +kernel
theorem dX12_readRoom_72 : decode cX12_readRoom 72 = .ok (.ireturn, 1) := by decide +kernel
theorem dX12_readRoom_73 : decode cX12_readRoom 73 = .ok (.aload_n 0, 1) := by decide +kernel
theorem dX12_readRoom_74 : decode cX12_readRoom 74 = .ok (.getfield 13, 3) := by decide +kernel
theorem dX12_readRoom_77 : decode cX12_readRoom 77 = .ok (.iload_n 1, 1) := by decide +kernel
theorem dX12_readRoom_78 : decode cX12_readRoom 78 = .ok (.iconst 3, 1) := by decide +kernel
theorem dX12_readRoom_79 : decode cX12_readRoom 79 = .ok (.iadd, 1) := by decide +kernel
theorem dX12_readRoom_80 : decode cX12_readRoom 80 = .ok (.iconst 0, 1) := by decide +kernel
theorem dX12_readRoom_81 : decode cX12_readRoom 81 = .ok (.iastore, 1) := by decide +kernel
theorem dX12_readRoom_82 : decode cX12_readRoom 82 = .ok (.aload_n 0, 1) := by decide +kernel
theorem dX12_readRoom_83 : decode cX12_readRoom 83 = .ok (.getfield 13, 3) := by decide +kernel
theorem dX12_readRoom_86 : decode cX12_readRoom 86 = .ok (.iconst 0, 1) := by decide +kernel
theorem dX12_readRoom_87 : decode cX12_readRoom 87 = .ok (.dup2, 1) := by decide +kernel
theorem dX12_readRoom_88 : decode cX12_readRoom 88 = .ok (.iaload, 1) := by decide +kernel
theorem dX12_readRoom_89 : decode cX12_readRoom 89 = .ok (.iconst 1, 1) := by decide +kernel
theorem dX12_readRoom_90 : decode cX12_readRoom 90 = .ok (.iadd, 1) := by decide +kernel
theorem dX12_readRoom_91 : decode cX12_readRoom 91 = .ok (.iastore, 1) := by decide +kernel
theorem dX12_readRoom_92 : decode cX12_readRoom 92 = .ok (.iconst 1, 1) := by decide +kernel
theorem dX12_readRoom_93 : decode cX12_readRoom 93 = .ok (.ireturn, 1) := by decide +kernel
set_option maxRecDepth 100000 in
def F_X12_readRoom_b71  (h : Hp) : Option (Int32 × Hp) :=
  some ((0 : Int32), h)
set_option maxHeartbeats 4000000 in
set_option maxRecDepth 100000 in
theorem r_X12_readRoom_b71  (h : Hp) {x : Cx} {r : Int32} {hz : Hp} (e : F_X12_readRoom_b71  h = some (r, hz)) (hF : Fin9 M_X12_readRoom x (some .boolean) (some (.int r)) hz) : V M_X12_readRoom x 3 71 [] [] h 0 0 := by
  unfold F_X12_readRoom_b71 at e
  refine V_iconst (pc := 71) (v := (0 : Int32)) dX12_readRoom_71 (by decide) ?_
  cases e
  exact V_zret (pc := 72) dX12_readRoom_72 rfl hF
set_option maxRecDepth 100000 in
def F_X12_readRoom_b0 (v0 : Nat) (h : Hp) : Option (Int32 × Hp) :=
  ob (F_X12_rooms v0 h) fun r2 => gd (decide (kd h v0 = 11)) <| (if r2 = (8 : Int32) then some ((0 : Int32), h) else ob (F_X12_rooms v0 h) fun r5 => ob2 (F_X12_number v0 (0 : Int32) (9 : Int32) h) fun r7 h8 => ob2 (F_X12_sets v0 (((11 : Int32) + ((4 : Int32) * r5)) + (0 : Int32)) r7 h8) fun r10 h11 => gd (decide (kd h8 v0 = 11)) <| (if r10 = 0 then F_X12_readRoom_b71 h11 else ob2 (F_X12_number v0 (0 : Int32) (9 : Int32) h11) fun r14 h15 => gd (decide (kd h11 v0 = 11)) <| ob2 (F_X12_sets v0 (((11 : Int32) + ((4 : Int32) * r5)) + (1 : Int32)) r14 h15) fun r18 h19 => gd (decide (kd h15 v0 = 11)) <| (if r18 = 0 then F_X12_readRoom_b71 h19 else ob2 (F_X12_number v0 (1 : Int32) (4 : Int32) h19) fun r22 h23 => gd (decide (kd h19 v0 = 11)) <| ob2 (F_X12_sets v0 (((11 : Int32) + ((4 : Int32) * r5)) + (2 : Int32)) r22 h23) fun r26 h27 => gd (decide (kd h23 v0 = 11)) <| (if r26 = 0 then F_X12_readRoom_b71 h27 else gd (decide (kd h27 v0 = 11)) <| ob (zR h27 v0 1) fun q30 => gd (decide (kd h27 q30 = 13)) <| gd (ix (((11 : Int32) + ((4 : Int32) * r5)) + (3 : Int32)) (zl h27 q30)) <| ob (zR (setI h27 q30 (((11 : Int32) + ((4 : Int32) * r5)) + (3 : Int32)).toNatClampNeg (0 : Int32)) v0 1) fun q34 => gd (decide (kd (setI h27 q30 (((11 : Int32) + ((4 : Int32) * r5)) + (3 : Int32)).toNatClampNeg (0 : Int32)) q34 = 13)) <| gd (ix (0 : Int32) (zl (setI h27 q30 (((11 : Int32) + ((4 : Int32) * r5)) + (3 : Int32)).toNatClampNeg (0 : Int32)) q34)) <| gd (ix (0 : Int32) (zl (setI h27 q30 (((11 : Int32) + ((4 : Int32) * r5)) + (3 : Int32)).toNatClampNeg (0 : Int32)) q34)) <| ob (some (setI (setI h27 q30 (((11 : Int32) + ((4 : Int32) * r5)) + (3 : Int32)).toNatClampNeg (0 : Int32)) q34 ((0 : Int32)).toNatClampNeg ((zI (setI h27 q30 (((11 : Int32) + ((4 : Int32) * r5)) + (3 : Int32)).toNatClampNeg (0 : Int32)) q34 ((0 : Int32)).toNatClampNeg) + (1 : Int32)))) fun h39 => some ((1 : Int32), h39)))))
set_option maxHeartbeats 4000000 in
set_option maxRecDepth 100000 in
theorem r_X12_readRoom_b0 (v0 : Nat) (h : Hp) {x : Cx} {r : Int32} {hz : Hp} (e : F_X12_readRoom_b0 v0 h = some (r, hz)) (hF : Fin9 M_X12_readRoom x (some .boolean) (some (.int r)) hz) : V M_X12_readRoom x 3 0 [(0, .ref v0)] [] h 0 0 := by
  unfold F_X12_readRoom_b0 at e
  refine V_aload_n (pc := 0) (i := 0) dX12_readRoom_0 rfl rfl ?_
  obtain ⟨r2, g1, e⟩ := ob_some e
  obtain ⟨g3, e⟩ := gd_some e
  refine V_callV (pc := 1) (bc := 0) (bs := 0) (mc := 0) (ms := 0) (st := []) (As := []) (a := v0) (h' := h) (r := some (.int r2)) dX12_readRoom_1 ml_X12_60 (ci := 11) rfl (of_decide_eq_true g3) rfl rfl (Nat.le_of_ble_eq_true rfl) (d' := 0) (by decide) (c_X12_rooms (l := x.2.1) v0 h g1) ?_
  refine V_bipush (pc := 4) (v := (8 : Int32)) dX12_readRoom_4 (by decide) ?_
  refine V_icmp_ne (pc := 6) (tgt := 11) dX12_readRoom_6 (by decide) (fun c47 => ?_) (fun c47 => ?_)
  · rw [if_neg c47] at e
    refine V_pick [0] rfl ?_
    refine V_bipush (pc := 11) (v := (11 : Int32)) dX12_readRoom_11 (by decide) ?_
    refine V_iconst (pc := 13) (v := (4 : Int32)) dX12_readRoom_13 (by decide) ?_
    refine V_aload_n (pc := 14) (i := 0) dX12_readRoom_14 rfl rfl ?_
    obtain ⟨r5, g4, e⟩ := ob_some e
    refine V_callV (pc := 15) (bc := 0) (bs := 0) (mc := 0) (ms := 0) (st := [.int (4 : Int32), .int (11 : Int32)]) (As := []) (a := v0) (h' := h) (r := some (.int r5)) dX12_readRoom_15 ml_X12_60 (ci := 11) rfl (of_decide_eq_true g3) rfl rfl (Nat.le_of_ble_eq_true rfl) (d' := 0) (by decide) (c_X12_rooms (l := x.2.1) v0 h g4) ?_
    refine V_imul (pc := 18) dX12_readRoom_18 ?_
    refine V_iadd (pc := 19) dX12_readRoom_19 ?_
    refine V_istore_n (pc := 20) (i := 1) (lv' := [(1, .int ((11 : Int32) + ((4 : Int32) * r5))), (0, .ref v0)]) dX12_readRoom_20 rfl (by decide) rfl ?_
    refine V_aload_n (pc := 21) (i := 0) dX12_readRoom_21 rfl rfl ?_
    refine V_iload_n (pc := 22) (i := 1) dX12_readRoom_22 rfl rfl ?_
    refine V_iconst (pc := 23) (v := (0 : Int32)) dX12_readRoom_23 (by decide) ?_
    refine V_iadd (pc := 24) dX12_readRoom_24 ?_
    refine V_aload_n (pc := 25) (i := 0) dX12_readRoom_25 rfl rfl ?_
    refine V_iconst (pc := 26) (v := (0 : Int32)) dX12_readRoom_26 (by decide) ?_
    refine V_bipush (pc := 27) (v := (9 : Int32)) dX12_readRoom_27 (by decide) ?_
    obtain ⟨r7, h8, g6, e⟩ := ob2_some e
    refine V_callV (pc := 29) (bc := 0) (bs := 0) (mc := 0) (ms := 0) (st := [.int (((11 : Int32) + ((4 : Int32) * r5)) + (0 : Int32)), .ref v0]) (As := [.int (0 : Int32), .int (9 : Int32)]) (a := v0) (h' := h8) (r := some (.int r7)) dX12_readRoom_29 ml_X12_115 (ci := 11) rfl (of_decide_eq_true g3) rfl rfl (Nat.le_of_ble_eq_true rfl) (d' := 2) (by decide) (c_X12_number (l := x.2.1) v0 (0 : Int32) (9 : Int32) h g6) ?_
    obtain ⟨r10, h11, g9, e⟩ := ob2_some e
    obtain ⟨g12, e⟩ := gd_some e
    refine V_callV (pc := 32) (bc := 0) (bs := 0) (mc := 0) (ms := 0) (st := []) (As := [.int (((11 : Int32) + ((4 : Int32) * r5)) + (0 : Int32)), .int r7]) (a := v0) (h' := h11) (r := some (.int r10)) dX12_readRoom_32 ml_X12_119 (ci := 11) rfl (of_decide_eq_true g12) rfl rfl (Nat.le_of_ble_eq_true rfl) (d' := 0) (by decide) (c_X12_sets (l := x.2.1) v0 (((11 : Int32) + ((4 : Int32) * r5)) + (0 : Int32)) r7 h8 g9) ?_
    refine V_if_eq (pc := 35) (tgt := 71) dX12_readRoom_35 (by decide) (fun c46 => ?_) (fun c46 => ?_)
    · rw [if_pos c46] at e
      exact V_pick [] rfl (r_X12_readRoom_b71 h11 e hF)
    · rw [if_neg c46] at e
      refine V_pick [1, 0] rfl ?_
      refine V_aload_n (pc := 38) (i := 0) dX12_readRoom_38 rfl rfl ?_
      refine V_iload_n (pc := 39) (i := 1) dX12_readRoom_39 rfl rfl ?_
      refine V_iconst (pc := 40) (v := (1 : Int32)) dX12_readRoom_40 (by decide) ?_
      refine V_iadd (pc := 41) dX12_readRoom_41 ?_
      refine V_aload_n (pc := 42) (i := 0) dX12_readRoom_42 rfl rfl ?_
      refine V_iconst (pc := 43) (v := (0 : Int32)) dX12_readRoom_43 (by decide) ?_
      refine V_bipush (pc := 44) (v := (9 : Int32)) dX12_readRoom_44 (by decide) ?_
      obtain ⟨r14, h15, g13, e⟩ := ob2_some e
      obtain ⟨g16, e⟩ := gd_some e
      refine V_callV (pc := 46) (bc := 0) (bs := 0) (mc := 0) (ms := 0) (st := [.int (((11 : Int32) + ((4 : Int32) * r5)) + (1 : Int32)), .ref v0]) (As := [.int (0 : Int32), .int (9 : Int32)]) (a := v0) (h' := h15) (r := some (.int r14)) dX12_readRoom_46 ml_X12_115 (ci := 11) rfl (of_decide_eq_true g16) rfl rfl (Nat.le_of_ble_eq_true rfl) (d' := 2) (by decide) (c_X12_number (l := x.2.1) v0 (0 : Int32) (9 : Int32) h11 g13) ?_
      obtain ⟨r18, h19, g17, e⟩ := ob2_some e
      obtain ⟨g20, e⟩ := gd_some e
      refine V_callV (pc := 49) (bc := 0) (bs := 0) (mc := 0) (ms := 0) (st := []) (As := [.int (((11 : Int32) + ((4 : Int32) * r5)) + (1 : Int32)), .int r14]) (a := v0) (h' := h19) (r := some (.int r18)) dX12_readRoom_49 ml_X12_119 (ci := 11) rfl (of_decide_eq_true g20) rfl rfl (Nat.le_of_ble_eq_true rfl) (d' := 0) (by decide) (c_X12_sets (l := x.2.1) v0 (((11 : Int32) + ((4 : Int32) * r5)) + (1 : Int32)) r14 h15 g17) ?_
      refine V_if_eq (pc := 52) (tgt := 71) dX12_readRoom_52 (by decide) (fun c45 => ?_) (fun c45 => ?_)
      · rw [if_pos c45] at e
        exact V_pick [] rfl (r_X12_readRoom_b71 h19 e hF)
      · rw [if_neg c45] at e
        refine V_pick [0, 1] rfl ?_
        refine V_aload_n (pc := 55) (i := 0) dX12_readRoom_55 rfl rfl ?_
        refine V_iload_n (pc := 56) (i := 1) dX12_readRoom_56 rfl rfl ?_
        refine V_iconst (pc := 57) (v := (2 : Int32)) dX12_readRoom_57 (by decide) ?_
        refine V_iadd (pc := 58) dX12_readRoom_58 ?_
        refine V_aload_n (pc := 59) (i := 0) dX12_readRoom_59 rfl rfl ?_
        refine V_iconst (pc := 60) (v := (1 : Int32)) dX12_readRoom_60 (by decide) ?_
        refine V_iconst (pc := 61) (v := (4 : Int32)) dX12_readRoom_61 (by decide) ?_
        obtain ⟨r22, h23, g21, e⟩ := ob2_some e
        obtain ⟨g24, e⟩ := gd_some e
        refine V_callV (pc := 62) (bc := 0) (bs := 0) (mc := 0) (ms := 0) (st := [.int (((11 : Int32) + ((4 : Int32) * r5)) + (2 : Int32)), .ref v0]) (As := [.int (1 : Int32), .int (4 : Int32)]) (a := v0) (h' := h23) (r := some (.int r22)) dX12_readRoom_62 ml_X12_115 (ci := 11) rfl (of_decide_eq_true g24) rfl rfl (Nat.le_of_ble_eq_true rfl) (d' := 2) (by decide) (c_X12_number (l := x.2.1) v0 (1 : Int32) (4 : Int32) h19 g21) ?_
        obtain ⟨r26, h27, g25, e⟩ := ob2_some e
        obtain ⟨g28, e⟩ := gd_some e
        refine V_callV (pc := 65) (bc := 0) (bs := 0) (mc := 0) (ms := 0) (st := []) (As := [.int (((11 : Int32) + ((4 : Int32) * r5)) + (2 : Int32)), .int r22]) (a := v0) (h' := h27) (r := some (.int r26)) dX12_readRoom_65 ml_X12_119 (ci := 11) rfl (of_decide_eq_true g28) rfl rfl (Nat.le_of_ble_eq_true rfl) (d' := 0) (by decide) (c_X12_sets (l := x.2.1) v0 (((11 : Int32) + ((4 : Int32) * r5)) + (2 : Int32)) r22 h23 g25) ?_
        refine V_if_ne (pc := 68) (tgt := 73) dX12_readRoom_68 (by decide) (fun c44 => ?_) (fun c44 => ?_)
        · rw [if_neg c44] at e
          refine V_pick [0, 1] rfl ?_
          refine V_aload_n (pc := 73) (i := 0) dX12_readRoom_73 rfl rfl ?_
          obtain ⟨g29, e⟩ := gd_some e
          obtain ⟨q30, g31, e⟩ := ob_some e
          refine V_getR (pc := 74) (ci := 11) (k := 1) (b := q30) dX12_readRoom_74 fl_X12_13 rfl (of_decide_eq_true g29) g31 ?_
          refine V_iload_n (pc := 77) (i := 1) dX12_readRoom_77 rfl rfl ?_
          refine V_iconst (pc := 78) (v := (3 : Int32)) dX12_readRoom_78 (by decide) ?_
          refine V_iadd (pc := 79) dX12_readRoom_79 ?_
          refine V_iconst (pc := 80) (v := (0 : Int32)) dX12_readRoom_80 (by decide) ?_
          obtain ⟨g32, e⟩ := gd_some e
          obtain ⟨g33, e⟩ := gd_some e
          refine V_iast (pc := 81) dX12_readRoom_81 (of_decide_eq_true g32) (ix_in g33) ?_
          refine V_aload_n (pc := 82) (i := 0) dX12_readRoom_82 rfl rfl ?_
          obtain ⟨q34, g35, e⟩ := ob_some e
          refine V_getR (pc := 83) (ci := 11) (k := 1) (b := q34) dX12_readRoom_83 fl_X12_13 rfl (kd_sI (of_decide_eq_true g29)) g35 ?_
          refine V_iconst (pc := 86) (v := (0 : Int32)) dX12_readRoom_86 (by decide) ?_
          refine V_dup2 (pc := 87) dX12_readRoom_87 rfl rfl ?_
          obtain ⟨g36, e⟩ := gd_some e
          obtain ⟨g37, e⟩ := gd_some e
          refine V_iald (pc := 88) dX12_readRoom_88 (of_decide_eq_true g36) (ix_in g37) ?_
          refine V_iconst (pc := 89) (v := (1 : Int32)) dX12_readRoom_89 (by decide) ?_
          refine V_iadd (pc := 90) dX12_readRoom_90 ?_
          obtain ⟨g38, e⟩ := gd_some e
          refine V_iast (pc := 91) dX12_readRoom_91 (of_decide_eq_true g36) (ix_in g38) ?_
          obtain ⟨h39, g40, e⟩ := ob_some e
          refine V_hp (Option.some.inj g40) ?_
          have k41 : kd h39 v0 = 11 := kd_eq (h := (setI (setI h27 q30 (((11 : Int32) + ((4 : Int32) * r5)) + (3 : Int32)).toNatClampNeg (0 : Int32)) q34 ((0 : Int32)).toNatClampNeg ((zI (setI h27 q30 (((11 : Int32) + ((4 : Int32) * r5)) + (3 : Int32)).toNatClampNeg (0 : Int32)) q34 ((0 : Int32)).toNatClampNeg) + (1 : Int32)))) (Option.some.inj g40) (kd_sI (kd_sI (of_decide_eq_true g29)))
          have k42 : kd h39 q30 = 13 := kd_eq (h := (setI (setI h27 q30 (((11 : Int32) + ((4 : Int32) * r5)) + (3 : Int32)).toNatClampNeg (0 : Int32)) q34 ((0 : Int32)).toNatClampNeg ((zI (setI h27 q30 (((11 : Int32) + ((4 : Int32) * r5)) + (3 : Int32)).toNatClampNeg (0 : Int32)) q34 ((0 : Int32)).toNatClampNeg) + (1 : Int32)))) (Option.some.inj g40) (kd_sI (kd_sI (of_decide_eq_true g32)))
          have k43 : kd h39 q34 = 13 := kd_eq (h := (setI (setI h27 q30 (((11 : Int32) + ((4 : Int32) * r5)) + (3 : Int32)).toNatClampNeg (0 : Int32)) q34 ((0 : Int32)).toNatClampNeg ((zI (setI h27 q30 (((11 : Int32) + ((4 : Int32) * r5)) + (3 : Int32)).toNatClampNeg (0 : Int32)) q34 ((0 : Int32)).toNatClampNeg) + (1 : Int32)))) (Option.some.inj g40) (kd_sI (of_decide_eq_true g36))
          refine V_iconst (pc := 92) (v := (1 : Int32)) dX12_readRoom_92 (by decide) ?_
          cases e
          exact V_zret (pc := 93) dX12_readRoom_93 rfl hF
        · rw [if_pos c44] at e
          exact V_pick [] rfl (r_X12_readRoom_b71 h27 e hF)
  · rw [if_pos c47] at e
    refine V_pick [] rfl ?_
    refine V_iconst (pc := 9) (v := (0 : Int32)) dX12_readRoom_9 (by decide) ?_
    cases e
    exact V_zret (pc := 10) dX12_readRoom_10 rfl hF
def F_X12_readRoom (v0 : Nat) (h : Hp) : Option (Int32 × Hp) := F_X12_readRoom_b0 v0 h
theorem c_X12_readRoom {l : Launch} (v0 : Nat) (h : Hp) {r : Int32} {hz : Hp} (e : F_X12_readRoom v0 h = some (r, hz)) : Ct l yX12_readRoom M_X12_readRoom (some .boolean) 3 [.ref v0] h 0 0 (some (.int r)) hz :=
  Ct_of rfl rfl (fun q => by cases q) (Nat.le_of_ble_eq_true rfl) (fun x _ hF => V_pick [0] rfl (r_X12_readRoom_b0 v0 h e hF))
theorem dX12_readGuest_0 : decode cX12_readGuest 0 = .ok (.aload_n 0, 1) := by decide +kernel
theorem dX12_readGuest_1 : decode cX12_readGuest 1 = .ok (.invokevirtual 68, 3) := by decide +kernel
theorem dX12_readGuest_4 : decode cX12_readGuest 4 = .ok (.iconst 5, 1) := by decide +kernel
theorem dX12_readGuest_5 : decode cX12_readGuest 5 = .ok (.if_icmp .ne 5, 3) := by decide +kernel
theorem dX12_readGuest_8 : decode cX12_readGuest 8 = .ok (.iconst 0, 1) := by decide +kernel
theorem dX12_readGuest_9 : decode cX12_readGuest 9 = .ok (.ireturn, 1) := by decide +kernel
theorem dX12_readGuest_10 : decode cX12_readGuest 10 = .ok (.bipush 43, 2) := by decide +kernel
theorem dX12_readGuest_12 : decode cX12_readGuest 12 = .ok (.iconst 2, 1) := by decide +kernel
theorem dX12_readGuest_13 : decode cX12_readGuest 13 = .ok (.aload_n 0, 1) := by decide +kernel
theorem dX12_readGuest_14 : decode cX12_readGuest 14 = .ok (.invokevirtual 68, 3) := by decide +kernel
theorem dX12_readGuest_17 : decode cX12_readGuest 17 = .ok (.imul, 1) := by decide +kernel
theorem dX12_readGuest_18 : decode cX12_readGuest 18 = .ok (.iadd, 1) := by decide +kernel
theorem dX12_readGuest_19 : decode cX12_readGuest 19 = .ok (.istore_n 1, 1) := by decide +kernel
theorem dX12_readGuest_20 : decode cX12_readGuest 20 = .ok (.aload_n 0, 1) := by decide +kernel
theorem dX12_readGuest_21 : decode cX12_readGuest 21 = .ok (.iload_n 1, 1) := by decide +kernel
theorem dX12_readGuest_22 : decode cX12_readGuest 22 = .ok (.aload_n 0, 1) := by decide +kernel
theorem dX12_readGuest_23 : decode cX12_readGuest 23 = .ok (.iconst 1, 1) := by decide +kernel
theorem dX12_readGuest_24 : decode cX12_readGuest 24 = .ok (.sipush 200, 3) := by decide +kernel
theorem dX12_readGuest_27 : decode cX12_readGuest 27 = .ok (.invokevirtual 115, 3) := by decide +kernel
theorem dX12_readGuest_30 : decode cX12_readGuest 30 = .ok (.invokevirtual 119, 3) := by decide +kernel
theorem dX12_readGuest_33 : decode cX12_readGuest 33 = .ok (.ifCond .eq 26, 3) := by decide +kernel
theorem dX12_readGuest_36 : decode cX12_readGuest 36 = .ok (.aload_n 0, 1) := by decide +kernel
theorem dX12_readGuest_37 : decode cX12_readGuest 37 = .ok (.ldc 122, 2) := by decide +kernel
theorem dX12_readGuest_39 : decode cX12_readGuest 39 = .ok (.invokevirtual 123, 3) := by decide +kernel
theorem dX12_readGuest_42 : decode cX12_readGuest 42 = .ok (.ifCond .eq 17, 3) := by decide +kernel
theorem dX12_readGuest_45 : decode cX12_readGuest 45 = .ok (.aload_n 0, 1) := by decide +kernel
theorem dX12_readGuest_46 : decode cX12_readGuest 46 = .ok (.iload_n 1, 1) := by decide +kernel
theorem dX12_readGuest_47 : decode cX12_readGuest 47 = .ok (.iconst 1, 1) := by decide +kernel
theorem dX12_readGuest_48 : decode cX12_readGuest 48 = .ok (.iadd, 1) := by decide +kernel
theorem dX12_readGuest_49 : decode cX12_readGuest 49 = .ok (.aload_n 0, 1) := by decide +kernel
theorem dX12_readGuest_50 : decode cX12_readGuest 50 = .ok (.invokevirtual 126, 3) := by decide +kernel
theorem dX12_readGuest_53 : decode cX12_readGuest 53 = .ok (.invokevirtual 119, 3) := by decide +kernel
theorem dX12_readGuest_56 : decode cX12_readGuest 56 = .ok (.ifCond .ne 5, 3) := by decide +kernel
theorem dX12_readGuest_59 : decode cX12_readGuest 59 = .ok (.iconst 0, 1) := by decide +kernel
theorem dX12_readGuest_60 : decode cX12_readGuest 60 = .ok (.ireturn, 1) := by decide +kernel
theorem dX12_readGuest_61 : decode cX12_readGuest 61 = .ok (.aload_n 0, 1) := by decide +kernel
theorem dX12_readGuest_62 : decode cX12_readGuest 62 = .ok (.getfield 13, 3) := by decide +kernel
theorem dX12_readGuest_65 : decode cX12_readGuest 65 = .ok (.sipush 147, 3) := by decide +kernel
theorem dX12_readGuest_68 : decode cX12_readGuest 68 = .ok (.sipush 817, 3) := by decide +kernel
theorem dX12_readGuest_71 : decode cX12_readGuest 71 = .ok (.aload_n 0, 1) := by decide +kernel
theorem dX12_readGuest_72 : decode cX12_readGuest 72 = .ok (.invokevirtual 68, 3) := by decide +kernel
theorem dX12_readGuest_75 : decode cX12_readGuest 75 = .ok (.imul, 1) := by decide +kernel
theorem dX12_readGuest_76 : decode cX12_readGuest 76 = .ok (.iadd, 1) := by decide +kernel
theorem dX12_readGuest_77 : decode cX12_readGuest 77 = .ok (.iconst 0, 1) := by decide +kernel
theorem dX12_readGuest_78 : decode cX12_readGuest 78 = .ok (.iastore, 1) := by decide +kernel
theorem dX12_readGuest_79 : decode cX12_readGuest 79 = .ok (.aload_n 0, 1) := by decide +kernel
theorem dX12_readGuest_80 : decode cX12_readGuest 80 = .ok (.getfield 13, 3) := by decide +kernel
theorem dX12_readGuest_83 : decode cX12_readGuest 83 = .ok (.iconst 1, 1) := by decide +kernel
theorem dX12_readGuest_84 : decode cX12_readGuest 84 = .ok (.dup2, 1) := by decide +kernel
theorem dX12_readGuest_85 : decode cX12_readGuest 85 = .ok (.iaload, 1) := by decide +kernel
theorem dX12_readGuest_86 : decode cX12_readGuest 86 = .ok (.iconst 1, 1) := by decide +kernel
theorem dX12_readGuest_87 : decode cX12_readGuest 87 = .ok (.iadd, 1) := by decide +kernel
theorem dX12_readGuest_88 : decode cX12_readGuest 88 = .ok (.iastore, 1) := by decide +kernel
theorem dX12_readGuest_89 : decode cX12_readGuest 89 = .ok (.iconst 1, 1) := by decide +kernel
theorem dX12_readGuest_90 : decode cX12_readGuest 90 = .ok (.ireturn, 1) := by decide +kernel
set_option maxRecDepth 100000 in
def F_X12_readGuest_b59  (h : Hp) : Option (Int32 × Hp) :=
  some ((0 : Int32), h)
set_option maxHeartbeats 4000000 in
set_option maxRecDepth 100000 in
theorem r_X12_readGuest_b59  (h : Hp) {x : Cx} {r : Int32} {hz : Hp} (e : F_X12_readGuest_b59  h = some (r, hz)) (hF : Fin9 M_X12_readGuest x (some .boolean) (some (.int r)) hz) : V M_X12_readGuest x 6 59 [] [] h 0 0 := by
  unfold F_X12_readGuest_b59 at e
  refine V_iconst (pc := 59) (v := (0 : Int32)) dX12_readGuest_59 (by decide) ?_
  cases e
  exact V_zret (pc := 60) dX12_readGuest_60 rfl hF
set_option maxRecDepth 100000 in
def F_X12_readGuest_b0 (v0 : Nat) (h : Hp) : Option (Int32 × Hp) :=
  ob (F_X12_guests v0 h) fun r2 => gd (decide (kd h v0 = 11)) <| (if r2 = (5 : Int32) then some ((0 : Int32), h) else ob (F_X12_guests v0 h) fun r5 => ob2 (F_X12_number v0 (1 : Int32) (200 : Int32) h) fun r7 h8 => ob2 (F_X12_sets v0 ((43 : Int32) + ((2 : Int32) * r5)) r7 h8) fun r10 h11 => gd (decide (kd h8 v0 = 11)) <| (if r10 = 0 then F_X12_readGuest_b59 h11 else ob2 (F_X12_needs v0 (44 : UInt32) h11) fun r14 h15 => gd (decide (kd h11 v0 = 11)) <| (if r14 = 0 then F_X12_readGuest_b59 h15 else ob2 (F_X12_roomTold v0 h15) fun r18 h19 => gd (decide (kd h15 v0 = 11)) <| ob2 (F_X12_sets v0 (((43 : Int32) + ((2 : Int32) * r5)) + (1 : Int32)) r18 h19) fun r22 h23 => gd (decide (kd h19 v0 = 11)) <| (if r22 = 0 then F_X12_readGuest_b59 h23 else gd (decide (kd h23 v0 = 11)) <| ob (zR h23 v0 1) fun q26 => ob (F_X12_guests v0 h23) fun r29 => gd (decide (kd h23 q26 = 13)) <| gd (ix ((147 : Int32) + ((817 : Int32) * r29)) (zl h23 q26)) <| ob (zR (setI h23 q26 ((147 : Int32) + ((817 : Int32) * r29)).toNatClampNeg (0 : Int32)) v0 1) fun q32 => gd (decide (kd (setI h23 q26 ((147 : Int32) + ((817 : Int32) * r29)).toNatClampNeg (0 : Int32)) q32 = 13)) <| gd (ix (1 : Int32) (zl (setI h23 q26 ((147 : Int32) + ((817 : Int32) * r29)).toNatClampNeg (0 : Int32)) q32)) <| gd (ix (1 : Int32) (zl (setI h23 q26 ((147 : Int32) + ((817 : Int32) * r29)).toNatClampNeg (0 : Int32)) q32)) <| ob (some (setI (setI h23 q26 ((147 : Int32) + ((817 : Int32) * r29)).toNatClampNeg (0 : Int32)) q32 ((1 : Int32)).toNatClampNeg ((zI (setI h23 q26 ((147 : Int32) + ((817 : Int32) * r29)).toNatClampNeg (0 : Int32)) q32 ((1 : Int32)).toNatClampNeg) + (1 : Int32)))) fun h37 => some ((1 : Int32), h37)))))
set_option maxHeartbeats 4000000 in
set_option maxRecDepth 100000 in
theorem r_X12_readGuest_b0 (v0 : Nat) (h : Hp) {x : Cx} {r : Int32} {hz : Hp} (e : F_X12_readGuest_b0 v0 h = some (r, hz)) (hF : Fin9 M_X12_readGuest x (some .boolean) (some (.int r)) hz) : V M_X12_readGuest x 6 0 [(0, .ref v0)] [] h 0 0 := by
  unfold F_X12_readGuest_b0 at e
  refine V_aload_n (pc := 0) (i := 0) dX12_readGuest_0 rfl rfl ?_
  obtain ⟨r2, g1, e⟩ := ob_some e
  obtain ⟨g3, e⟩ := gd_some e
  refine V_callV (pc := 1) (bc := 0) (bs := 0) (mc := 0) (ms := 0) (st := []) (As := []) (a := v0) (h' := h) (r := some (.int r2)) dX12_readGuest_1 ml_X12_68 (ci := 11) rfl (of_decide_eq_true g3) rfl rfl (Nat.le_of_ble_eq_true rfl) (d' := 0) (by decide) (c_X12_guests (l := x.2.1) v0 h g1) ?_
  refine V_iconst (pc := 4) (v := (5 : Int32)) dX12_readGuest_4 (by decide) ?_
  refine V_icmp_ne (pc := 5) (tgt := 10) dX12_readGuest_5 (by decide) (fun c45 => ?_) (fun c45 => ?_)
  · rw [if_neg c45] at e
    refine V_pick [0] rfl ?_
    refine V_bipush (pc := 10) (v := (43 : Int32)) dX12_readGuest_10 (by decide) ?_
    refine V_iconst (pc := 12) (v := (2 : Int32)) dX12_readGuest_12 (by decide) ?_
    refine V_aload_n (pc := 13) (i := 0) dX12_readGuest_13 rfl rfl ?_
    obtain ⟨r5, g4, e⟩ := ob_some e
    refine V_callV (pc := 14) (bc := 0) (bs := 0) (mc := 0) (ms := 0) (st := [.int (2 : Int32), .int (43 : Int32)]) (As := []) (a := v0) (h' := h) (r := some (.int r5)) dX12_readGuest_14 ml_X12_68 (ci := 11) rfl (of_decide_eq_true g3) rfl rfl (Nat.le_of_ble_eq_true rfl) (d' := 0) (by decide) (c_X12_guests (l := x.2.1) v0 h g4) ?_
    refine V_imul (pc := 17) dX12_readGuest_17 ?_
    refine V_iadd (pc := 18) dX12_readGuest_18 ?_
    refine V_istore_n (pc := 19) (i := 1) (lv' := [(1, .int ((43 : Int32) + ((2 : Int32) * r5))), (0, .ref v0)]) dX12_readGuest_19 rfl (by decide) rfl ?_
    refine V_aload_n (pc := 20) (i := 0) dX12_readGuest_20 rfl rfl ?_
    refine V_iload_n (pc := 21) (i := 1) dX12_readGuest_21 rfl rfl ?_
    refine V_aload_n (pc := 22) (i := 0) dX12_readGuest_22 rfl rfl ?_
    refine V_iconst (pc := 23) (v := (1 : Int32)) dX12_readGuest_23 (by decide) ?_
    refine V_sipush (pc := 24) (v := (200 : Int32)) dX12_readGuest_24 (by decide) ?_
    obtain ⟨r7, h8, g6, e⟩ := ob2_some e
    refine V_callV (pc := 27) (bc := 0) (bs := 0) (mc := 0) (ms := 0) (st := [.int ((43 : Int32) + ((2 : Int32) * r5)), .ref v0]) (As := [.int (1 : Int32), .int (200 : Int32)]) (a := v0) (h' := h8) (r := some (.int r7)) dX12_readGuest_27 ml_X12_115 (ci := 11) rfl (of_decide_eq_true g3) rfl rfl (Nat.le_of_ble_eq_true rfl) (d' := 2) (by decide) (c_X12_number (l := x.2.1) v0 (1 : Int32) (200 : Int32) h g6) ?_
    obtain ⟨r10, h11, g9, e⟩ := ob2_some e
    obtain ⟨g12, e⟩ := gd_some e
    refine V_callV (pc := 30) (bc := 0) (bs := 0) (mc := 0) (ms := 0) (st := []) (As := [.int ((43 : Int32) + ((2 : Int32) * r5)), .int r7]) (a := v0) (h' := h11) (r := some (.int r10)) dX12_readGuest_30 ml_X12_119 (ci := 11) rfl (of_decide_eq_true g12) rfl rfl (Nat.le_of_ble_eq_true rfl) (d' := 0) (by decide) (c_X12_sets (l := x.2.1) v0 ((43 : Int32) + ((2 : Int32) * r5)) r7 h8 g9) ?_
    refine V_if_eq (pc := 33) (tgt := 59) dX12_readGuest_33 (by decide) (fun c44 => ?_) (fun c44 => ?_)
    · rw [if_pos c44] at e
      exact V_pick [] rfl (r_X12_readGuest_b59 h11 e hF)
    · rw [if_neg c44] at e
      refine V_pick [1, 0] rfl ?_
      refine V_aload_n (pc := 36) (i := 0) dX12_readGuest_36 rfl rfl ?_
      refine V_ldcS (pc := 37) (j := 44) (u := (44 : UInt32)) dX12_readGuest_37 rfl (by decide) ?_
      obtain ⟨r14, h15, g13, e⟩ := ob2_some e
      obtain ⟨g16, e⟩ := gd_some e
      refine V_callV (pc := 39) (bc := 0) (bs := 0) (mc := 0) (ms := 0) (st := []) (As := [.float (44 : UInt32)]) (a := v0) (h' := h15) (r := some (.int r14)) dX12_readGuest_39 ml_X12_123 (ci := 11) rfl (of_decide_eq_true g16) rfl rfl (Nat.le_of_ble_eq_true rfl) (d' := 5) (by decide) (c_X12_needs (l := x.2.1) v0 (44 : UInt32) h11 g13) ?_
      refine V_if_eq (pc := 42) (tgt := 59) dX12_readGuest_42 (by decide) (fun c43 => ?_) (fun c43 => ?_)
      · rw [if_pos c43] at e
        exact V_pick [] rfl (r_X12_readGuest_b59 h15 e hF)
      · rw [if_neg c43] at e
        refine V_pick [0, 1] rfl ?_
        refine V_aload_n (pc := 45) (i := 0) dX12_readGuest_45 rfl rfl ?_
        refine V_iload_n (pc := 46) (i := 1) dX12_readGuest_46 rfl rfl ?_
        refine V_iconst (pc := 47) (v := (1 : Int32)) dX12_readGuest_47 (by decide) ?_
        refine V_iadd (pc := 48) dX12_readGuest_48 ?_
        refine V_aload_n (pc := 49) (i := 0) dX12_readGuest_49 rfl rfl ?_
        obtain ⟨r18, h19, g17, e⟩ := ob2_some e
        obtain ⟨g20, e⟩ := gd_some e
        refine V_callV (pc := 50) (bc := 0) (bs := 0) (mc := 0) (ms := 0) (st := [.int (((43 : Int32) + ((2 : Int32) * r5)) + (1 : Int32)), .ref v0]) (As := []) (a := v0) (h' := h19) (r := some (.int r18)) dX12_readGuest_50 ml_X12_126 (ci := 11) rfl (of_decide_eq_true g20) rfl rfl (Nat.le_of_ble_eq_true rfl) (d' := 3) (by decide) (c_X12_roomTold (l := x.2.1) v0 h15 g17) ?_
        obtain ⟨r22, h23, g21, e⟩ := ob2_some e
        obtain ⟨g24, e⟩ := gd_some e
        refine V_callV (pc := 53) (bc := 0) (bs := 0) (mc := 0) (ms := 0) (st := []) (As := [.int (((43 : Int32) + ((2 : Int32) * r5)) + (1 : Int32)), .int r18]) (a := v0) (h' := h23) (r := some (.int r22)) dX12_readGuest_53 ml_X12_119 (ci := 11) rfl (of_decide_eq_true g24) rfl rfl (Nat.le_of_ble_eq_true rfl) (d' := 0) (by decide) (c_X12_sets (l := x.2.1) v0 (((43 : Int32) + ((2 : Int32) * r5)) + (1 : Int32)) r18 h19 g21) ?_
        refine V_if_ne (pc := 56) (tgt := 61) dX12_readGuest_56 (by decide) (fun c42 => ?_) (fun c42 => ?_)
        · rw [if_neg c42] at e
          refine V_pick [0] rfl ?_
          refine V_aload_n (pc := 61) (i := 0) dX12_readGuest_61 rfl rfl ?_
          obtain ⟨g25, e⟩ := gd_some e
          obtain ⟨q26, g27, e⟩ := ob_some e
          refine V_getR (pc := 62) (ci := 11) (k := 1) (b := q26) dX12_readGuest_62 fl_X12_13 rfl (of_decide_eq_true g25) g27 ?_
          refine V_sipush (pc := 65) (v := (147 : Int32)) dX12_readGuest_65 (by decide) ?_
          refine V_sipush (pc := 68) (v := (817 : Int32)) dX12_readGuest_68 (by decide) ?_
          refine V_aload_n (pc := 71) (i := 0) dX12_readGuest_71 rfl rfl ?_
          obtain ⟨r29, g28, e⟩ := ob_some e
          refine V_callV (pc := 72) (bc := 0) (bs := 0) (mc := 0) (ms := 0) (st := [.int (817 : Int32), .int (147 : Int32), .ref q26]) (As := []) (a := v0) (h' := h23) (r := some (.int r29)) dX12_readGuest_72 ml_X12_68 (ci := 11) rfl (of_decide_eq_true g25) rfl rfl (Nat.le_of_ble_eq_true rfl) (d' := 0) (by decide) (c_X12_guests (l := x.2.1) v0 h23 g28) ?_
          refine V_imul (pc := 75) dX12_readGuest_75 ?_
          refine V_iadd (pc := 76) dX12_readGuest_76 ?_
          refine V_iconst (pc := 77) (v := (0 : Int32)) dX12_readGuest_77 (by decide) ?_
          obtain ⟨g30, e⟩ := gd_some e
          obtain ⟨g31, e⟩ := gd_some e
          refine V_iast (pc := 78) dX12_readGuest_78 (of_decide_eq_true g30) (ix_in g31) ?_
          refine V_aload_n (pc := 79) (i := 0) dX12_readGuest_79 rfl rfl ?_
          obtain ⟨q32, g33, e⟩ := ob_some e
          refine V_getR (pc := 80) (ci := 11) (k := 1) (b := q32) dX12_readGuest_80 fl_X12_13 rfl (kd_sI (of_decide_eq_true g25)) g33 ?_
          refine V_iconst (pc := 83) (v := (1 : Int32)) dX12_readGuest_83 (by decide) ?_
          refine V_dup2 (pc := 84) dX12_readGuest_84 rfl rfl ?_
          obtain ⟨g34, e⟩ := gd_some e
          obtain ⟨g35, e⟩ := gd_some e
          refine V_iald (pc := 85) dX12_readGuest_85 (of_decide_eq_true g34) (ix_in g35) ?_
          refine V_iconst (pc := 86) (v := (1 : Int32)) dX12_readGuest_86 (by decide) ?_
          refine V_iadd (pc := 87) dX12_readGuest_87 ?_
          obtain ⟨g36, e⟩ := gd_some e
          refine V_iast (pc := 88) dX12_readGuest_88 (of_decide_eq_true g34) (ix_in g36) ?_
          obtain ⟨h37, g38, e⟩ := ob_some e
          refine V_hp (Option.some.inj g38) ?_
          have k39 : kd h37 v0 = 11 := kd_eq (h := (setI (setI h23 q26 ((147 : Int32) + ((817 : Int32) * r29)).toNatClampNeg (0 : Int32)) q32 ((1 : Int32)).toNatClampNeg ((zI (setI h23 q26 ((147 : Int32) + ((817 : Int32) * r29)).toNatClampNeg (0 : Int32)) q32 ((1 : Int32)).toNatClampNeg) + (1 : Int32)))) (Option.some.inj g38) (kd_sI (kd_sI (of_decide_eq_true g25)))
          have k40 : kd h37 q26 = 13 := kd_eq (h := (setI (setI h23 q26 ((147 : Int32) + ((817 : Int32) * r29)).toNatClampNeg (0 : Int32)) q32 ((1 : Int32)).toNatClampNeg ((zI (setI h23 q26 ((147 : Int32) + ((817 : Int32) * r29)).toNatClampNeg (0 : Int32)) q32 ((1 : Int32)).toNatClampNeg) + (1 : Int32)))) (Option.some.inj g38) (kd_sI (kd_sI (of_decide_eq_true g30)))
          have k41 : kd h37 q32 = 13 := kd_eq (h := (setI (setI h23 q26 ((147 : Int32) + ((817 : Int32) * r29)).toNatClampNeg (0 : Int32)) q32 ((1 : Int32)).toNatClampNeg ((zI (setI h23 q26 ((147 : Int32) + ((817 : Int32) * r29)).toNatClampNeg (0 : Int32)) q32 ((1 : Int32)).toNatClampNeg) + (1 : Int32)))) (Option.some.inj g38) (kd_sI (of_decide_eq_true g34))
          refine V_iconst (pc := 89) (v := (1 : Int32)) dX12_readGuest_89 (by decide) ?_
          cases e
          exact V_zret (pc := 90) dX12_readGuest_90 rfl hF
        · rw [if_pos c42] at e
          exact V_pick [] rfl (r_X12_readGuest_b59 h23 e hF)
  · rw [if_pos c45] at e
    refine V_pick [] rfl ?_
    refine V_iconst (pc := 8) (v := (0 : Int32)) dX12_readGuest_8 (by decide) ?_
    cases e
    exact V_zret (pc := 9) dX12_readGuest_9 rfl hF
def F_X12_readGuest (v0 : Nat) (h : Hp) : Option (Int32 × Hp) := F_X12_readGuest_b0 v0 h
theorem c_X12_readGuest {l : Launch} (v0 : Nat) (h : Hp) {r : Int32} {hz : Hp} (e : F_X12_readGuest v0 h = some (r, hz)) : Ct l yX12_readGuest M_X12_readGuest (some .boolean) 6 [.ref v0] h 0 0 (some (.int r)) hz :=
  Ct_of rfl rfl (fun q => by cases q) (Nat.le_of_ble_eq_true rfl) (fun x _ hF => V_pick [0] rfl (r_X12_readGuest_b0 v0 h e hF))
theorem dX12_readTrunk_0 : decode cX12_readTrunk 0 = .ok (.aload_n 0, 1) := by decide +kernel
theorem dX12_readTrunk_1 : decode cX12_readTrunk 1 = .ok (.invokevirtual 71, 3) := by decide +kernel
theorem dX12_readTrunk_4 : decode cX12_readTrunk 4 = .ok (.bipush 6, 2) := by decide +kernel
theorem dX12_readTrunk_6 : decode cX12_readTrunk 6 = .ok (.if_icmp .ne 5, 3) := by decide +kernel
theorem dX12_readTrunk_9 : decode cX12_readTrunk 9 = .ok (.iconst 0, 1) := by decide +kernel
theorem dX12_readTrunk_10 : decode cX12_readTrunk 10 = .ok (.ireturn, 1) := by decide +kernel
theorem dX12_readTrunk_11 : decode cX12_readTrunk 11 = .ok (.bipush 53, 2) := by decide +kernel
theorem dX12_readTrunk_13 : decode cX12_readTrunk 13 = .ok (.iconst 3, 1) := by decide +kernel
theorem dX12_readTrunk_14 : decode cX12_readTrunk 14 = .ok (.aload_n 0, 1) := by decide +kernel
theorem dX12_readTrunk_15 : decode cX12_readTrunk 15 = .ok (.invokevirtual 71, 3) := by decide +kernel
theorem dX12_readTrunk_18 : decode cX12_readTrunk 18 = .ok (.imul, 1) := by decide +kernel
theorem dX12_readTrunk_19 : decode cX12_readTrunk 19 = .ok (.iadd, 1) := by decide +kernel
theorem dX12_readTrunk_20 : decode cX12_readTrunk 20 = .ok (.istore_n 1, 1) := by decide +kernel
theorem dX12_readTrunk_21 : decode cX12_readTrunk 21 = .ok (.aload_n 0, 1) := by decide +kernel
theorem dX12_readTrunk_22 : decode cX12_readTrunk 22 = .ok (.iload_n 1, 1) := by decide +kernel
theorem dX12_readTrunk_23 : decode cX12_readTrunk 23 = .ok (.aload_n 0, 1) := by decide +kernel
theorem dX12_readTrunk_24 : decode cX12_readTrunk 24 = .ok (.iconst 0, 1) := by decide +kernel
theorem dX12_readTrunk_25 : decode cX12_readTrunk 25 = .ok (.sipush 300, 3) := by decide +kernel
theorem dX12_readTrunk_28 : decode cX12_readTrunk 28 = .ok (.invokevirtual 115, 3) := by decide +kernel
theorem dX12_readTrunk_31 : decode cX12_readTrunk 31 = .ok (.invokevirtual 119, 3) := by decide +kernel
theorem dX12_readTrunk_34 : decode cX12_readTrunk 34 = .ok (.ifCond .eq 58, 3) := by decide +kernel
theorem dX12_readTrunk_37 : decode cX12_readTrunk 37 = .ok (.aload_n 0, 1) := by decide +kernel
theorem dX12_readTrunk_38 : decode cX12_readTrunk 38 = .ok (.ldc 129, 2) := by decide +kernel
theorem dX12_readTrunk_40 : decode cX12_readTrunk 40 = .ok (.invokevirtual 123, 3) := by decide +kernel
theorem dX12_readTrunk_43 : decode cX12_readTrunk 43 = .ok (.ifCond .eq 49, 3) := by decide +kernel
theorem dX12_readTrunk_46 : decode cX12_readTrunk 46 = .ok (.aload_n 0, 1) := by decide +kernel
theorem dX12_readTrunk_47 : decode cX12_readTrunk 47 = .ok (.iload_n 1, 1) := by decide +kernel
theorem dX12_readTrunk_48 : decode cX12_readTrunk 48 = .ok (.iconst 1, 1) := by decide +kernel
theorem dX12_readTrunk_49 : decode cX12_readTrunk 49 = .ok (.iadd, 1) := by decide +kernel
theorem dX12_readTrunk_50 : decode cX12_readTrunk 50 = .ok (.aload_n 0, 1) := by decide +kernel
theorem dX12_readTrunk_51 : decode cX12_readTrunk 51 = .ok (.aload_n 0, 1) := by decide +kernel
theorem dX12_readTrunk_52 : decode cX12_readTrunk 52 = .ok (.getfield 13, 3) := by decide +kernel
theorem dX12_readTrunk_55 : decode cX12_readTrunk 55 = .ok (.iload_n 1, 1) := by decide +kernel
theorem dX12_readTrunk_56 : decode cX12_readTrunk 56 = .ok (.iaload, 1) := by decide +kernel
theorem dX12_readTrunk_57 : decode cX12_readTrunk 57 = .ok (.sipush 300, 3) := by decide +kernel
theorem dX12_readTrunk_60 : decode cX12_readTrunk 60 = .ok (.invokevirtual 115, 3) := by decide +kernel
theorem dX12_readTrunk_63 : decode cX12_readTrunk 63 = .ok (.invokevirtual 119, 3) := by decide +kernel
theorem dX12_readTrunk_66 : decode cX12_readTrunk 66 = .ok (.ifCond .eq 26, 3) := by decide +kernel
theorem dX12_readTrunk_69 : decode cX12_readTrunk 69 = .ok (.aload_n 0, 1) := by decide +kernel
theorem dX12_readTrunk_70 : decode cX12_readTrunk 70 = .ok (.ldc 122, 2) := by decide +kernel
theorem dX12_readTrunk_72 : decode cX12_readTrunk 72 = .ok (.invokevirtual 123, 3) := by decide +kernel
theorem dX12_readTrunk_75 : decode cX12_readTrunk 75 = .ok (.ifCond .eq 17, 3) := by decide +kernel
theorem dX12_readTrunk_78 : decode cX12_readTrunk 78 = .ok (.aload_n 0, 1) := by decide +kernel
theorem dX12_readTrunk_79 : decode cX12_readTrunk 79 = .ok (.iload_n 1, 1) := by decide +kernel
theorem dX12_readTrunk_80 : decode cX12_readTrunk 80 = .ok (.iconst 2, 1) := by decide +kernel
theorem dX12_readTrunk_81 : decode cX12_readTrunk 81 = .ok (.iadd, 1) := by decide +kernel
theorem dX12_readTrunk_82 : decode cX12_readTrunk 82 = .ok (.aload_n 0, 1) := by decide +kernel
theorem dX12_readTrunk_83 : decode cX12_readTrunk 83 = .ok (.invokevirtual 126, 3) := by decide +kernel
theorem dX12_readTrunk_86 : decode cX12_readTrunk 86 = .ok (.invokevirtual 119, 3) := by decide +kernel
theorem dX12_readTrunk_89 : decode cX12_readTrunk 89 = .ok (.ifCond .ne 5, 3) := by decide +kernel
theorem dX12_readTrunk_92 : decode cX12_readTrunk 92 = .ok (.iconst 0, 1) := by decide +kernel
theorem dX12_readTrunk_93 : decode cX12_readTrunk 93 = .ok (.ireturn, 1) := by decide +kernel
theorem dX12_readTrunk_94 : decode cX12_readTrunk 94 = .ok (.aload_n 0, 1) := by decide +kernel
theorem dX12_readTrunk_95 : decode cX12_readTrunk 95 = .ok (.getfield 13, 3) := by decide +kernel
theorem dX12_readTrunk_98 : decode cX12_readTrunk 98 = .ok (.iconst 2, 1) := by decide +kernel
theorem dX12_readTrunk_99 : decode cX12_readTrunk 99 = .ok (.dup2, 1) := by decide +kernel
theorem dX12_readTrunk_100 : decode cX12_readTrunk 100 = .ok (.iaload, 1) := by decide +kernel
theorem dX12_readTrunk_101 : decode cX12_readTrunk 101 = .ok (.iconst 1, 1) := by decide +kernel
theorem dX12_readTrunk_102 : decode cX12_readTrunk 102 = .ok (.iadd, 1) := by decide +kernel
theorem dX12_readTrunk_103 : decode cX12_readTrunk 103 = .ok (.iastore, 1) := by decide +kernel
theorem dX12_readTrunk_104 : decode cX12_readTrunk 104 = .ok (.iconst 1, 1) := by decide +kernel
theorem dX12_readTrunk_105 : decode cX12_readTrunk 105 = .ok (.ireturn, 1) := by decide +kernel
set_option maxRecDepth 100000 in
def F_X12_readTrunk_b92  (h : Hp) : Option (Int32 × Hp) :=
  some ((0 : Int32), h)
set_option maxHeartbeats 4000000 in
set_option maxRecDepth 100000 in
theorem r_X12_readTrunk_b92  (h : Hp) {x : Cx} {r : Int32} {hz : Hp} (e : F_X12_readTrunk_b92  h = some (r, hz)) (hF : Fin9 M_X12_readTrunk x (some .boolean) (some (.int r)) hz) : V M_X12_readTrunk x 6 92 [] [] h 0 0 := by
  unfold F_X12_readTrunk_b92 at e
  refine V_iconst (pc := 92) (v := (0 : Int32)) dX12_readTrunk_92 (by decide) ?_
  cases e
  exact V_zret (pc := 93) dX12_readTrunk_93 rfl hF
set_option maxRecDepth 100000 in
def F_X12_readTrunk_b0 (v0 : Nat) (h : Hp) : Option (Int32 × Hp) :=
  ob (F_X12_trunks v0 h) fun r2 => gd (decide (kd h v0 = 11)) <| (if r2 = (6 : Int32) then some ((0 : Int32), h) else ob (F_X12_trunks v0 h) fun r5 => ob2 (F_X12_number v0 (0 : Int32) (300 : Int32) h) fun r7 h8 => ob2 (F_X12_sets v0 ((53 : Int32) + ((3 : Int32) * r5)) r7 h8) fun r10 h11 => gd (decide (kd h8 v0 = 11)) <| (if r10 = 0 then F_X12_readTrunk_b92 h11 else ob2 (F_X12_needs v0 (46 : UInt32) h11) fun r14 h15 => gd (decide (kd h11 v0 = 11)) <| (if r14 = 0 then F_X12_readTrunk_b92 h15 else gd (decide (kd h15 v0 = 11)) <| ob (zR h15 v0 1) fun q18 => gd (decide (kd h15 q18 = 13)) <| gd (ix ((53 : Int32) + ((3 : Int32) * r5)) (zl h15 q18)) <| ob2 (F_X12_number v0 (zI h15 q18 ((53 : Int32) + ((3 : Int32) * r5)).toNatClampNeg) (300 : Int32) h15) fun r23 h24 => ob2 (F_X12_sets v0 (((53 : Int32) + ((3 : Int32) * r5)) + (1 : Int32)) r23 h24) fun r26 h27 => gd (decide (kd h24 v0 = 11)) <| (if r26 = 0 then F_X12_readTrunk_b92 h27 else ob2 (F_X12_needs v0 (44 : UInt32) h27) fun r30 h31 => gd (decide (kd h27 v0 = 11)) <| (if r30 = 0 then F_X12_readTrunk_b92 h31 else ob2 (F_X12_roomTold v0 h31) fun r34 h35 => gd (decide (kd h31 v0 = 11)) <| ob2 (F_X12_sets v0 (((53 : Int32) + ((3 : Int32) * r5)) + (2 : Int32)) r34 h35) fun r38 h39 => gd (decide (kd h35 v0 = 11)) <| (if r38 = 0 then F_X12_readTrunk_b92 h39 else gd (decide (kd h39 v0 = 11)) <| ob (zR h39 v0 1) fun q42 => gd (decide (kd h39 q42 = 13)) <| gd (ix (2 : Int32) (zl h39 q42)) <| gd (ix (2 : Int32) (zl h39 q42)) <| some ((1 : Int32), setI h39 q42 ((2 : Int32)).toNatClampNeg ((zI h39 q42 ((2 : Int32)).toNatClampNeg) + (1 : Int32)))))))))
set_option maxHeartbeats 4000000 in
set_option maxRecDepth 100000 in
theorem r_X12_readTrunk_b0 (v0 : Nat) (h : Hp) {x : Cx} {r : Int32} {hz : Hp} (e : F_X12_readTrunk_b0 v0 h = some (r, hz)) (hF : Fin9 M_X12_readTrunk x (some .boolean) (some (.int r)) hz) : V M_X12_readTrunk x 6 0 [(0, .ref v0)] [] h 0 0 := by
  unfold F_X12_readTrunk_b0 at e
  refine V_aload_n (pc := 0) (i := 0) dX12_readTrunk_0 rfl rfl ?_
  obtain ⟨r2, g1, e⟩ := ob_some e
  obtain ⟨g3, e⟩ := gd_some e
  refine V_callV (pc := 1) (bc := 0) (bs := 0) (mc := 0) (ms := 0) (st := []) (As := []) (a := v0) (h' := h) (r := some (.int r2)) dX12_readTrunk_1 ml_X12_71 (ci := 11) rfl (of_decide_eq_true g3) rfl rfl (Nat.le_of_ble_eq_true rfl) (d' := 0) (by decide) (c_X12_trunks (l := x.2.1) v0 h g1) ?_
  refine V_bipush (pc := 4) (v := (6 : Int32)) dX12_readTrunk_4 (by decide) ?_
  refine V_icmp_ne (pc := 6) (tgt := 11) dX12_readTrunk_6 (by decide) (fun c52 => ?_) (fun c52 => ?_)
  · rw [if_neg c52] at e
    refine V_pick [0] rfl ?_
    refine V_bipush (pc := 11) (v := (53 : Int32)) dX12_readTrunk_11 (by decide) ?_
    refine V_iconst (pc := 13) (v := (3 : Int32)) dX12_readTrunk_13 (by decide) ?_
    refine V_aload_n (pc := 14) (i := 0) dX12_readTrunk_14 rfl rfl ?_
    obtain ⟨r5, g4, e⟩ := ob_some e
    refine V_callV (pc := 15) (bc := 0) (bs := 0) (mc := 0) (ms := 0) (st := [.int (3 : Int32), .int (53 : Int32)]) (As := []) (a := v0) (h' := h) (r := some (.int r5)) dX12_readTrunk_15 ml_X12_71 (ci := 11) rfl (of_decide_eq_true g3) rfl rfl (Nat.le_of_ble_eq_true rfl) (d' := 0) (by decide) (c_X12_trunks (l := x.2.1) v0 h g4) ?_
    refine V_imul (pc := 18) dX12_readTrunk_18 ?_
    refine V_iadd (pc := 19) dX12_readTrunk_19 ?_
    refine V_istore_n (pc := 20) (i := 1) (lv' := [(1, .int ((53 : Int32) + ((3 : Int32) * r5))), (0, .ref v0)]) dX12_readTrunk_20 rfl (by decide) rfl ?_
    refine V_aload_n (pc := 21) (i := 0) dX12_readTrunk_21 rfl rfl ?_
    refine V_iload_n (pc := 22) (i := 1) dX12_readTrunk_22 rfl rfl ?_
    refine V_aload_n (pc := 23) (i := 0) dX12_readTrunk_23 rfl rfl ?_
    refine V_iconst (pc := 24) (v := (0 : Int32)) dX12_readTrunk_24 (by decide) ?_
    refine V_sipush (pc := 25) (v := (300 : Int32)) dX12_readTrunk_25 (by decide) ?_
    obtain ⟨r7, h8, g6, e⟩ := ob2_some e
    refine V_callV (pc := 28) (bc := 0) (bs := 0) (mc := 0) (ms := 0) (st := [.int ((53 : Int32) + ((3 : Int32) * r5)), .ref v0]) (As := [.int (0 : Int32), .int (300 : Int32)]) (a := v0) (h' := h8) (r := some (.int r7)) dX12_readTrunk_28 ml_X12_115 (ci := 11) rfl (of_decide_eq_true g3) rfl rfl (Nat.le_of_ble_eq_true rfl) (d' := 2) (by decide) (c_X12_number (l := x.2.1) v0 (0 : Int32) (300 : Int32) h g6) ?_
    obtain ⟨r10, h11, g9, e⟩ := ob2_some e
    obtain ⟨g12, e⟩ := gd_some e
    refine V_callV (pc := 31) (bc := 0) (bs := 0) (mc := 0) (ms := 0) (st := []) (As := [.int ((53 : Int32) + ((3 : Int32) * r5)), .int r7]) (a := v0) (h' := h11) (r := some (.int r10)) dX12_readTrunk_31 ml_X12_119 (ci := 11) rfl (of_decide_eq_true g12) rfl rfl (Nat.le_of_ble_eq_true rfl) (d' := 0) (by decide) (c_X12_sets (l := x.2.1) v0 ((53 : Int32) + ((3 : Int32) * r5)) r7 h8 g9) ?_
    refine V_if_eq (pc := 34) (tgt := 92) dX12_readTrunk_34 (by decide) (fun c51 => ?_) (fun c51 => ?_)
    · rw [if_pos c51] at e
      exact V_pick [] rfl (r_X12_readTrunk_b92 h11 e hF)
    · rw [if_neg c51] at e
      refine V_pick [1, 0] rfl ?_
      refine V_aload_n (pc := 37) (i := 0) dX12_readTrunk_37 rfl rfl ?_
      refine V_ldcS (pc := 38) (j := 46) (u := (46 : UInt32)) dX12_readTrunk_38 rfl (by decide) ?_
      obtain ⟨r14, h15, g13, e⟩ := ob2_some e
      obtain ⟨g16, e⟩ := gd_some e
      refine V_callV (pc := 40) (bc := 0) (bs := 0) (mc := 0) (ms := 0) (st := []) (As := [.float (46 : UInt32)]) (a := v0) (h' := h15) (r := some (.int r14)) dX12_readTrunk_40 ml_X12_123 (ci := 11) rfl (of_decide_eq_true g16) rfl rfl (Nat.le_of_ble_eq_true rfl) (d' := 5) (by decide) (c_X12_needs (l := x.2.1) v0 (46 : UInt32) h11 g13) ?_
      refine V_if_eq (pc := 43) (tgt := 92) dX12_readTrunk_43 (by decide) (fun c50 => ?_) (fun c50 => ?_)
      · rw [if_pos c50] at e
        exact V_pick [] rfl (r_X12_readTrunk_b92 h15 e hF)
      · rw [if_neg c50] at e
        refine V_pick [0, 1] rfl ?_
        refine V_aload_n (pc := 46) (i := 0) dX12_readTrunk_46 rfl rfl ?_
        refine V_iload_n (pc := 47) (i := 1) dX12_readTrunk_47 rfl rfl ?_
        refine V_iconst (pc := 48) (v := (1 : Int32)) dX12_readTrunk_48 (by decide) ?_
        refine V_iadd (pc := 49) dX12_readTrunk_49 ?_
        refine V_aload_n (pc := 50) (i := 0) dX12_readTrunk_50 rfl rfl ?_
        refine V_aload_n (pc := 51) (i := 0) dX12_readTrunk_51 rfl rfl ?_
        obtain ⟨g17, e⟩ := gd_some e
        obtain ⟨q18, g19, e⟩ := ob_some e
        refine V_getR (pc := 52) (ci := 11) (k := 1) (b := q18) dX12_readTrunk_52 fl_X12_13 rfl (of_decide_eq_true g17) g19 ?_
        refine V_iload_n (pc := 55) (i := 1) dX12_readTrunk_55 rfl rfl ?_
        obtain ⟨g20, e⟩ := gd_some e
        obtain ⟨g21, e⟩ := gd_some e
        refine V_iald (pc := 56) dX12_readTrunk_56 (of_decide_eq_true g20) (ix_in g21) ?_
        refine V_sipush (pc := 57) (v := (300 : Int32)) dX12_readTrunk_57 (by decide) ?_
        obtain ⟨r23, h24, g22, e⟩ := ob2_some e
        refine V_callV (pc := 60) (bc := 0) (bs := 0) (mc := 0) (ms := 0) (st := [.int (((53 : Int32) + ((3 : Int32) * r5)) + (1 : Int32)), .ref v0]) (As := [.int (zI h15 q18 ((53 : Int32) + ((3 : Int32) * r5)).toNatClampNeg), .int (300 : Int32)]) (a := v0) (h' := h24) (r := some (.int r23)) dX12_readTrunk_60 ml_X12_115 (ci := 11) rfl (of_decide_eq_true g17) rfl rfl (Nat.le_of_ble_eq_true rfl) (d' := 2) (by decide) (c_X12_number (l := x.2.1) v0 (zI h15 q18 ((53 : Int32) + ((3 : Int32) * r5)).toNatClampNeg) (300 : Int32) h15 g22) ?_
        obtain ⟨r26, h27, g25, e⟩ := ob2_some e
        obtain ⟨g28, e⟩ := gd_some e
        refine V_callV (pc := 63) (bc := 0) (bs := 0) (mc := 0) (ms := 0) (st := []) (As := [.int (((53 : Int32) + ((3 : Int32) * r5)) + (1 : Int32)), .int r23]) (a := v0) (h' := h27) (r := some (.int r26)) dX12_readTrunk_63 ml_X12_119 (ci := 11) rfl (of_decide_eq_true g28) rfl rfl (Nat.le_of_ble_eq_true rfl) (d' := 0) (by decide) (c_X12_sets (l := x.2.1) v0 (((53 : Int32) + ((3 : Int32) * r5)) + (1 : Int32)) r23 h24 g25) ?_
        refine V_if_eq (pc := 66) (tgt := 92) dX12_readTrunk_66 (by decide) (fun c49 => ?_) (fun c49 => ?_)
        · rw [if_pos c49] at e
          exact V_pick [] rfl (r_X12_readTrunk_b92 h27 e hF)
        · rw [if_neg c49] at e
          refine V_pick [0, 1] rfl ?_
          refine V_aload_n (pc := 69) (i := 0) dX12_readTrunk_69 rfl rfl ?_
          refine V_ldcS (pc := 70) (j := 44) (u := (44 : UInt32)) dX12_readTrunk_70 rfl (by decide) ?_
          obtain ⟨r30, h31, g29, e⟩ := ob2_some e
          obtain ⟨g32, e⟩ := gd_some e
          refine V_callV (pc := 72) (bc := 0) (bs := 0) (mc := 0) (ms := 0) (st := []) (As := [.float (44 : UInt32)]) (a := v0) (h' := h31) (r := some (.int r30)) dX12_readTrunk_72 ml_X12_123 (ci := 11) rfl (of_decide_eq_true g32) rfl rfl (Nat.le_of_ble_eq_true rfl) (d' := 5) (by decide) (c_X12_needs (l := x.2.1) v0 (44 : UInt32) h27 g29) ?_
          refine V_if_eq (pc := 75) (tgt := 92) dX12_readTrunk_75 (by decide) (fun c48 => ?_) (fun c48 => ?_)
          · rw [if_pos c48] at e
            exact V_pick [] rfl (r_X12_readTrunk_b92 h31 e hF)
          · rw [if_neg c48] at e
            refine V_pick [0, 1] rfl ?_
            refine V_aload_n (pc := 78) (i := 0) dX12_readTrunk_78 rfl rfl ?_
            refine V_iload_n (pc := 79) (i := 1) dX12_readTrunk_79 rfl rfl ?_
            refine V_iconst (pc := 80) (v := (2 : Int32)) dX12_readTrunk_80 (by decide) ?_
            refine V_iadd (pc := 81) dX12_readTrunk_81 ?_
            refine V_aload_n (pc := 82) (i := 0) dX12_readTrunk_82 rfl rfl ?_
            obtain ⟨r34, h35, g33, e⟩ := ob2_some e
            obtain ⟨g36, e⟩ := gd_some e
            refine V_callV (pc := 83) (bc := 0) (bs := 0) (mc := 0) (ms := 0) (st := [.int (((53 : Int32) + ((3 : Int32) * r5)) + (2 : Int32)), .ref v0]) (As := []) (a := v0) (h' := h35) (r := some (.int r34)) dX12_readTrunk_83 ml_X12_126 (ci := 11) rfl (of_decide_eq_true g36) rfl rfl (Nat.le_of_ble_eq_true rfl) (d' := 3) (by decide) (c_X12_roomTold (l := x.2.1) v0 h31 g33) ?_
            obtain ⟨r38, h39, g37, e⟩ := ob2_some e
            obtain ⟨g40, e⟩ := gd_some e
            refine V_callV (pc := 86) (bc := 0) (bs := 0) (mc := 0) (ms := 0) (st := []) (As := [.int (((53 : Int32) + ((3 : Int32) * r5)) + (2 : Int32)), .int r34]) (a := v0) (h' := h39) (r := some (.int r38)) dX12_readTrunk_86 ml_X12_119 (ci := 11) rfl (of_decide_eq_true g40) rfl rfl (Nat.le_of_ble_eq_true rfl) (d' := 0) (by decide) (c_X12_sets (l := x.2.1) v0 (((53 : Int32) + ((3 : Int32) * r5)) + (2 : Int32)) r34 h35 g37) ?_
            refine V_if_ne (pc := 89) (tgt := 94) dX12_readTrunk_89 (by decide) (fun c47 => ?_) (fun c47 => ?_)
            · rw [if_neg c47] at e
              refine V_pick [0] rfl ?_
              refine V_aload_n (pc := 94) (i := 0) dX12_readTrunk_94 rfl rfl ?_
              obtain ⟨g41, e⟩ := gd_some e
              obtain ⟨q42, g43, e⟩ := ob_some e
              refine V_getR (pc := 95) (ci := 11) (k := 1) (b := q42) dX12_readTrunk_95 fl_X12_13 rfl (of_decide_eq_true g41) g43 ?_
              refine V_iconst (pc := 98) (v := (2 : Int32)) dX12_readTrunk_98 (by decide) ?_
              refine V_dup2 (pc := 99) dX12_readTrunk_99 rfl rfl ?_
              obtain ⟨g44, e⟩ := gd_some e
              obtain ⟨g45, e⟩ := gd_some e
              refine V_iald (pc := 100) dX12_readTrunk_100 (of_decide_eq_true g44) (ix_in g45) ?_
              refine V_iconst (pc := 101) (v := (1 : Int32)) dX12_readTrunk_101 (by decide) ?_
              refine V_iadd (pc := 102) dX12_readTrunk_102 ?_
              obtain ⟨g46, e⟩ := gd_some e
              refine V_iast (pc := 103) dX12_readTrunk_103 (of_decide_eq_true g44) (ix_in g46) ?_
              refine V_iconst (pc := 104) (v := (1 : Int32)) dX12_readTrunk_104 (by decide) ?_
              cases e
              exact V_zret (pc := 105) dX12_readTrunk_105 rfl hF
            · rw [if_pos c47] at e
              exact V_pick [] rfl (r_X12_readTrunk_b92 h39 e hF)
  · rw [if_pos c52] at e
    refine V_pick [] rfl ?_
    refine V_iconst (pc := 9) (v := (0 : Int32)) dX12_readTrunk_9 (by decide) ?_
    cases e
    exact V_zret (pc := 10) dX12_readTrunk_10 rfl hF
def F_X12_readTrunk (v0 : Nat) (h : Hp) : Option (Int32 × Hp) := F_X12_readTrunk_b0 v0 h
theorem c_X12_readTrunk {l : Launch} (v0 : Nat) (h : Hp) {r : Int32} {hz : Hp} (e : F_X12_readTrunk v0 h = some (r, hz)) : Ct l yX12_readTrunk M_X12_readTrunk (some .boolean) 6 [.ref v0] h 0 0 (some (.int r)) hz :=
  Ct_of rfl rfl (fun q => by cases q) (Nat.le_of_ble_eq_true rfl) (fun x _ hF => V_pick [0] rfl (r_X12_readTrunk_b0 v0 h e hF))
theorem dX12_readStove_0 : decode cX12_readStove 0 = .ok (.aload_n 0, 1) := by decide +kernel
theorem dX12_readStove_1 : decode cX12_readStove 1 = .ok (.bipush 7, 2) := by decide +kernel
theorem dX12_readStove_3 : decode cX12_readStove 3 = .ok (.aload_n 0, 1) := by decide +kernel
theorem dX12_readStove_4 : decode cX12_readStove 4 = .ok (.iconst 0, 1) := by decide +kernel
theorem dX12_readStove_5 : decode cX12_readStove 5 = .ok (.sipush 999, 3) := by decide +kernel
theorem dX12_readStove_8 : decode cX12_readStove 8 = .ok (.invokevirtual 115, 3) := by decide +kernel
theorem dX12_readStove_11 : decode cX12_readStove 11 = .ok (.invokevirtual 119, 3) := by decide +kernel
theorem dX12_readStove_14 : decode cX12_readStove 14 = .ok (.ifCond .eq 29, 3) := by decide +kernel
theorem dX12_readStove_17 : decode cX12_readStove 17 = .ok (.aload_n 0, 1) := by decide +kernel
theorem dX12_readStove_18 : decode cX12_readStove 18 = .ok (.ldc 122, 2) := by decide +kernel
theorem dX12_readStove_20 : decode cX12_readStove 20 = .ok (.invokevirtual 123, 3) := by decide +kernel
theorem dX12_readStove_23 : decode cX12_readStove 23 = .ok (.ifCond .eq 20, 3) := by decide +kernel
theorem dX12_readStove_26 : decode cX12_readStove 26 = .ok (.aload_n 0, 1) := by decide +kernel
theorem dX12_readStove_27 : decode cX12_readStove 27 = .ok (.bipush 6, 2) := by decide +kernel
theorem dX12_readStove_29 : decode cX12_readStove 29 = .ok (.aload_n 0, 1) := by decide +kernel
theorem dX12_readStove_30 : decode cX12_readStove 30 = .ok (.invokevirtual 126, 3) := by decide +kernel
theorem dX12_readStove_33 : decode cX12_readStove 33 = .ok (.invokevirtual 119, 3) := by decide +kernel
theorem dX12_readStove_36 : decode cX12_readStove 36 = .ok (.ifCond .eq 7, 3) := by decide +kernel
theorem dX12_readStove_39 : decode cX12_readStove 39 = .ok (.iconst 1, 1) := by decide +kernel
theorem dX12_readStove_40 : decode cX12_readStove 40 = .ok (.goto 4, 3) := by decide +kernel
theorem dX12_readStove_43 : decode cX12_readStove 43 = .ok (.iconst 0, 1) := by decide +kernel
theorem dX12_readStove_44 : decode cX12_readStove 44 = .ok (.ireturn, 1) := by decide +kernel
set_option maxRecDepth 100000 in
def F_X12_readStove_b44 (t0 : Int32) (h : Hp) : Option (Int32 × Hp) :=
  gd (decide (t0 = 0 ∨ t0 = 1)) <| some (t0, h)
set_option maxHeartbeats 4000000 in
set_option maxRecDepth 100000 in
theorem r_X12_readStove_b44 (t0 : Int32) (h : Hp) {x : Cx} {r : Int32} {hz : Hp} (e : F_X12_readStove_b44 t0 h = some (r, hz)) (hF : Fin9 M_X12_readStove x (some .boolean) (some (.int r)) hz) : V M_X12_readStove x 6 44 [] [.int t0] h 0 0 := by
  unfold F_X12_readStove_b44 at e
  obtain ⟨g9, e⟩ := gd_some e
  cases e
  exact V_zret (pc := 44) dX12_readStove_44 (z01 (of_decide_eq_true g9)) hF
set_option maxRecDepth 100000 in
def F_X12_readStove_b43  (h : Hp) : Option (Int32 × Hp) :=
  F_X12_readStove_b44 (0 : Int32) h
set_option maxHeartbeats 4000000 in
set_option maxRecDepth 100000 in
theorem r_X12_readStove_b43  (h : Hp) {x : Cx} {r : Int32} {hz : Hp} (e : F_X12_readStove_b43  h = some (r, hz)) (hF : Fin9 M_X12_readStove x (some .boolean) (some (.int r)) hz) : V M_X12_readStove x 6 43 [] [] h 0 0 := by
  unfold F_X12_readStove_b43 at e
  refine V_iconst (pc := 43) (v := (0 : Int32)) dX12_readStove_43 (by decide) ?_
  exact V_pick [] rfl (r_X12_readStove_b44 (0 : Int32) h e hF)
set_option maxRecDepth 100000 in
def F_X12_readStove_b0 (v0 : Nat) (h : Hp) : Option (Int32 × Hp) :=
  ob2 (F_X12_number v0 (0 : Int32) (999 : Int32) h) fun r2 h3 => gd (decide (kd h v0 = 11)) <| ob2 (F_X12_sets v0 (7 : Int32) r2 h3) fun r6 h7 => gd (decide (kd h3 v0 = 11)) <| (if r6 = 0 then F_X12_readStove_b43 h7 else ob2 (F_X12_needs v0 (44 : UInt32) h7) fun r11 h12 => gd (decide (kd h7 v0 = 11)) <| (if r11 = 0 then F_X12_readStove_b43 h12 else ob2 (F_X12_roomTold v0 h12) fun r15 h16 => gd (decide (kd h12 v0 = 11)) <| ob2 (F_X12_sets v0 (6 : Int32) r15 h16) fun r19 h20 => gd (decide (kd h16 v0 = 11)) <| (if r19 = 0 then F_X12_readStove_b43 h20 else F_X12_readStove_b44 (1 : Int32) h20)))
set_option maxHeartbeats 4000000 in
set_option maxRecDepth 100000 in
theorem r_X12_readStove_b0 (v0 : Nat) (h : Hp) {x : Cx} {r : Int32} {hz : Hp} (e : F_X12_readStove_b0 v0 h = some (r, hz)) (hF : Fin9 M_X12_readStove x (some .boolean) (some (.int r)) hz) : V M_X12_readStove x 6 0 [(0, .ref v0)] [] h 0 0 := by
  unfold F_X12_readStove_b0 at e
  refine V_aload_n (pc := 0) (i := 0) dX12_readStove_0 rfl rfl ?_
  refine V_bipush (pc := 1) (v := (7 : Int32)) dX12_readStove_1 (by decide) ?_
  refine V_aload_n (pc := 3) (i := 0) dX12_readStove_3 rfl rfl ?_
  refine V_iconst (pc := 4) (v := (0 : Int32)) dX12_readStove_4 (by decide) ?_
  refine V_sipush (pc := 5) (v := (999 : Int32)) dX12_readStove_5 (by decide) ?_
  obtain ⟨r2, h3, g1, e⟩ := ob2_some e
  obtain ⟨g4, e⟩ := gd_some e
  refine V_callV (pc := 8) (bc := 0) (bs := 0) (mc := 0) (ms := 0) (st := [.int (7 : Int32), .ref v0]) (As := [.int (0 : Int32), .int (999 : Int32)]) (a := v0) (h' := h3) (r := some (.int r2)) dX12_readStove_8 ml_X12_115 (ci := 11) rfl (of_decide_eq_true g4) rfl rfl (Nat.le_of_ble_eq_true rfl) (d' := 2) (by decide) (c_X12_number (l := x.2.1) v0 (0 : Int32) (999 : Int32) h g1) ?_
  obtain ⟨r6, h7, g5, e⟩ := ob2_some e
  obtain ⟨g8, e⟩ := gd_some e
  refine V_callV (pc := 11) (bc := 0) (bs := 0) (mc := 0) (ms := 0) (st := []) (As := [.int (7 : Int32), .int r2]) (a := v0) (h' := h7) (r := some (.int r6)) dX12_readStove_11 ml_X12_119 (ci := 11) rfl (of_decide_eq_true g8) rfl rfl (Nat.le_of_ble_eq_true rfl) (d' := 0) (by decide) (c_X12_sets (l := x.2.1) v0 (7 : Int32) r2 h3 g5) ?_
  refine V_if_eq (pc := 14) (tgt := 43) dX12_readStove_14 (by decide) (fun c24 => ?_) (fun c24 => ?_)
  · rw [if_pos c24] at e
    exact V_pick [] rfl (r_X12_readStove_b43 h7 e hF)
  · rw [if_neg c24] at e
    refine V_pick [0] rfl ?_
    refine V_aload_n (pc := 17) (i := 0) dX12_readStove_17 rfl rfl ?_
    refine V_ldcS (pc := 18) (j := 44) (u := (44 : UInt32)) dX12_readStove_18 rfl (by decide) ?_
    obtain ⟨r11, h12, g10, e⟩ := ob2_some e
    obtain ⟨g13, e⟩ := gd_some e
    refine V_callV (pc := 20) (bc := 0) (bs := 0) (mc := 0) (ms := 0) (st := []) (As := [.float (44 : UInt32)]) (a := v0) (h' := h12) (r := some (.int r11)) dX12_readStove_20 ml_X12_123 (ci := 11) rfl (of_decide_eq_true g13) rfl rfl (Nat.le_of_ble_eq_true rfl) (d' := 5) (by decide) (c_X12_needs (l := x.2.1) v0 (44 : UInt32) h7 g10) ?_
    refine V_if_eq (pc := 23) (tgt := 43) dX12_readStove_23 (by decide) (fun c23 => ?_) (fun c23 => ?_)
    · rw [if_pos c23] at e
      exact V_pick [] rfl (r_X12_readStove_b43 h12 e hF)
    · rw [if_neg c23] at e
      refine V_pick [0] rfl ?_
      refine V_aload_n (pc := 26) (i := 0) dX12_readStove_26 rfl rfl ?_
      refine V_bipush (pc := 27) (v := (6 : Int32)) dX12_readStove_27 (by decide) ?_
      refine V_aload_n (pc := 29) (i := 0) dX12_readStove_29 rfl rfl ?_
      obtain ⟨r15, h16, g14, e⟩ := ob2_some e
      obtain ⟨g17, e⟩ := gd_some e
      refine V_callV (pc := 30) (bc := 0) (bs := 0) (mc := 0) (ms := 0) (st := [.int (6 : Int32), .ref v0]) (As := []) (a := v0) (h' := h16) (r := some (.int r15)) dX12_readStove_30 ml_X12_126 (ci := 11) rfl (of_decide_eq_true g17) rfl rfl (Nat.le_of_ble_eq_true rfl) (d' := 3) (by decide) (c_X12_roomTold (l := x.2.1) v0 h12 g14) ?_
      obtain ⟨r19, h20, g18, e⟩ := ob2_some e
      obtain ⟨g21, e⟩ := gd_some e
      refine V_callV (pc := 33) (bc := 0) (bs := 0) (mc := 0) (ms := 0) (st := []) (As := [.int (6 : Int32), .int r15]) (a := v0) (h' := h20) (r := some (.int r19)) dX12_readStove_33 ml_X12_119 (ci := 11) rfl (of_decide_eq_true g21) rfl rfl (Nat.le_of_ble_eq_true rfl) (d' := 0) (by decide) (c_X12_sets (l := x.2.1) v0 (6 : Int32) r15 h16 g18) ?_
      refine V_if_eq (pc := 36) (tgt := 43) dX12_readStove_36 (by decide) (fun c22 => ?_) (fun c22 => ?_)
      · rw [if_pos c22] at e
        exact V_pick [] rfl (r_X12_readStove_b43 h20 e hF)
      · rw [if_neg c22] at e
        refine V_pick [] rfl ?_
        refine V_iconst (pc := 39) (v := (1 : Int32)) dX12_readStove_39 (by decide) ?_
        refine V_goto (pc := 40) (tgt := 44) dX12_readStove_40 (by decide) ?_
        exact V_pick [] rfl (r_X12_readStove_b44 (1 : Int32) h20 e hF)
def F_X12_readStove (v0 : Nat) (h : Hp) : Option (Int32 × Hp) := F_X12_readStove_b0 v0 h
theorem c_X12_readStove {l : Launch} (v0 : Nat) (h : Hp) {r : Int32} {hz : Hp} (e : F_X12_readStove v0 h = some (r, hz)) : Ct l yX12_readStove M_X12_readStove (some .boolean) 6 [.ref v0] h 0 0 (some (.int r)) hz :=
  Ct_of rfl rfl (fun q => by cases q) (Nat.le_of_ble_eq_true rfl) (fun x _ hF => V_pick [0] rfl (r_X12_readStove_b0 v0 h e hF))
theorem dX12_readSnow_0 : decode cX12_readSnow 0 = .ok (.aload_n 0, 1) := by decide +kernel
theorem dX12_readSnow_1 : decode cX12_readSnow 1 = .ok (.invokevirtual 126, 3) := by decide +kernel
theorem dX12_readSnow_4 : decode cX12_readSnow 4 = .ok (.istore_n 1, 1) := by decide +kernel
theorem dX12_readSnow_5 : decode cX12_readSnow 5 = .ok (.iload_n 1, 1) := by decide +kernel
theorem dX12_readSnow_6 : decode cX12_readSnow 6 = .ok (.ifCond .lt 30, 3) := by decide +kernel
theorem dX12_readSnow_9 : decode cX12_readSnow 9 = .ok (.aload_n 0, 1) := by decide +kernel
theorem dX12_readSnow_10 : decode cX12_readSnow 10 = .ok (.bipush 11, 2) := by decide +kernel
theorem dX12_readSnow_12 : decode cX12_readSnow 12 = .ok (.iconst 4, 1) := by decide +kernel
theorem dX12_readSnow_13 : decode cX12_readSnow 13 = .ok (.iload_n 1, 1) := by decide +kernel
theorem dX12_readSnow_14 : decode cX12_readSnow 14 = .ok (.imul, 1) := by decide +kernel
theorem dX12_readSnow_15 : decode cX12_readSnow 15 = .ok (.iadd, 1) := by decide +kernel
theorem dX12_readSnow_16 : decode cX12_readSnow 16 = .ok (.iconst 3, 1) := by decide +kernel
theorem dX12_readSnow_17 : decode cX12_readSnow 17 = .ok (.iadd, 1) := by decide +kernel
theorem dX12_readSnow_18 : decode cX12_readSnow 18 = .ok (.aload_n 0, 1) := by decide +kernel
theorem dX12_readSnow_19 : decode cX12_readSnow 19 = .ok (.iconst 0, 1) := by decide +kernel
theorem dX12_readSnow_20 : decode cX12_readSnow 20 = .ok (.sipush 999, 3) := by decide +kernel
theorem dX12_readSnow_23 : decode cX12_readSnow 23 = .ok (.invokevirtual 115, 3) := by decide +kernel
theorem dX12_readSnow_26 : decode cX12_readSnow 26 = .ok (.invokevirtual 119, 3) := by decide +kernel
theorem dX12_readSnow_29 : decode cX12_readSnow 29 = .ok (.ifCond .eq 7, 3) := by decide +kernel
theorem dX12_readSnow_32 : decode cX12_readSnow 32 = .ok (.iconst 1, 1) := by decide +kernel
theorem dX12_readSnow_33 : decode cX12_readSnow 33 = .ok (.goto 4, 3) := by decide +kernel
theorem dX12_readSnow_36 : decode cX12_readSnow 36 = .ok (.iconst 0, 1) := by decide +kernel
theorem dX12_readSnow_37 : decode cX12_readSnow 37 = .ok (.ireturn, 1) := by decide +kernel
set_option maxRecDepth 100000 in
def F_X12_readSnow_b37 (t0 : Int32) (h : Hp) : Option (Int32 × Hp) :=
  gd (decide (t0 = 0 ∨ t0 = 1)) <| some (t0, h)
set_option maxHeartbeats 4000000 in
set_option maxRecDepth 100000 in
theorem r_X12_readSnow_b37 (t0 : Int32) (h : Hp) {x : Cx} {r : Int32} {hz : Hp} (e : F_X12_readSnow_b37 t0 h = some (r, hz)) (hF : Fin9 M_X12_readSnow x (some .boolean) (some (.int r)) hz) : V M_X12_readSnow x 4 37 [] [.int t0] h 0 0 := by
  unfold F_X12_readSnow_b37 at e
  obtain ⟨g5, e⟩ := gd_some e
  cases e
  exact V_zret (pc := 37) dX12_readSnow_37 (z01 (of_decide_eq_true g5)) hF
set_option maxRecDepth 100000 in
def F_X12_readSnow_b36  (h : Hp) : Option (Int32 × Hp) :=
  F_X12_readSnow_b37 (0 : Int32) h
set_option maxHeartbeats 4000000 in
set_option maxRecDepth 100000 in
theorem r_X12_readSnow_b36  (h : Hp) {x : Cx} {r : Int32} {hz : Hp} (e : F_X12_readSnow_b36  h = some (r, hz)) (hF : Fin9 M_X12_readSnow x (some .boolean) (some (.int r)) hz) : V M_X12_readSnow x 4 36 [] [] h 0 0 := by
  unfold F_X12_readSnow_b36 at e
  refine V_iconst (pc := 36) (v := (0 : Int32)) dX12_readSnow_36 (by decide) ?_
  exact V_pick [] rfl (r_X12_readSnow_b37 (0 : Int32) h e hF)
set_option maxRecDepth 100000 in
def F_X12_readSnow_b0 (v0 : Nat) (h : Hp) : Option (Int32 × Hp) :=
  ob2 (F_X12_roomTold v0 h) fun r2 h3 => gd (decide (kd h v0 = 11)) <| (if r2 < 0 then F_X12_readSnow_b36 h3 else ob2 (F_X12_number v0 (0 : Int32) (999 : Int32) h3) fun r7 h8 => gd (decide (kd h3 v0 = 11)) <| ob2 (F_X12_sets v0 (((11 : Int32) + ((4 : Int32) * r2)) + (3 : Int32)) r7 h8) fun r11 h12 => gd (decide (kd h8 v0 = 11)) <| (if r11 = 0 then F_X12_readSnow_b36 h12 else F_X12_readSnow_b37 (1 : Int32) h12))
set_option maxHeartbeats 4000000 in
set_option maxRecDepth 100000 in
theorem r_X12_readSnow_b0 (v0 : Nat) (h : Hp) {x : Cx} {r : Int32} {hz : Hp} (e : F_X12_readSnow_b0 v0 h = some (r, hz)) (hF : Fin9 M_X12_readSnow x (some .boolean) (some (.int r)) hz) : V M_X12_readSnow x 4 0 [(0, .ref v0)] [] h 0 0 := by
  unfold F_X12_readSnow_b0 at e
  refine V_aload_n (pc := 0) (i := 0) dX12_readSnow_0 rfl rfl ?_
  obtain ⟨r2, h3, g1, e⟩ := ob2_some e
  obtain ⟨g4, e⟩ := gd_some e
  refine V_callV (pc := 1) (bc := 0) (bs := 0) (mc := 0) (ms := 0) (st := []) (As := []) (a := v0) (h' := h3) (r := some (.int r2)) dX12_readSnow_1 ml_X12_126 (ci := 11) rfl (of_decide_eq_true g4) rfl rfl (Nat.le_of_ble_eq_true rfl) (d' := 3) (by decide) (c_X12_roomTold (l := x.2.1) v0 h g1) ?_
  refine V_istore_n (pc := 4) (i := 1) (lv' := [(1, .int r2), (0, .ref v0)]) dX12_readSnow_4 rfl (by decide) rfl ?_
  refine V_iload_n (pc := 5) (i := 1) dX12_readSnow_5 rfl rfl ?_
  refine V_if_lt (pc := 6) (tgt := 36) dX12_readSnow_6 (by decide) (fun c15 => ?_) (fun c15 => ?_)
  · rw [if_pos c15] at e
    exact V_pick [] rfl (r_X12_readSnow_b36 h3 e hF)
  · rw [if_neg c15] at e
    refine V_pick [1, 0] rfl ?_
    refine V_aload_n (pc := 9) (i := 0) dX12_readSnow_9 rfl rfl ?_
    refine V_bipush (pc := 10) (v := (11 : Int32)) dX12_readSnow_10 (by decide) ?_
    refine V_iconst (pc := 12) (v := (4 : Int32)) dX12_readSnow_12 (by decide) ?_
    refine V_iload_n (pc := 13) (i := 1) dX12_readSnow_13 rfl rfl ?_
    refine V_imul (pc := 14) dX12_readSnow_14 ?_
    refine V_iadd (pc := 15) dX12_readSnow_15 ?_
    refine V_iconst (pc := 16) (v := (3 : Int32)) dX12_readSnow_16 (by decide) ?_
    refine V_iadd (pc := 17) dX12_readSnow_17 ?_
    refine V_aload_n (pc := 18) (i := 0) dX12_readSnow_18 rfl rfl ?_
    refine V_iconst (pc := 19) (v := (0 : Int32)) dX12_readSnow_19 (by decide) ?_
    refine V_sipush (pc := 20) (v := (999 : Int32)) dX12_readSnow_20 (by decide) ?_
    obtain ⟨r7, h8, g6, e⟩ := ob2_some e
    obtain ⟨g9, e⟩ := gd_some e
    refine V_callV (pc := 23) (bc := 0) (bs := 0) (mc := 0) (ms := 0) (st := [.int (((11 : Int32) + ((4 : Int32) * r2)) + (3 : Int32)), .ref v0]) (As := [.int (0 : Int32), .int (999 : Int32)]) (a := v0) (h' := h8) (r := some (.int r7)) dX12_readSnow_23 ml_X12_115 (ci := 11) rfl (of_decide_eq_true g9) rfl rfl (Nat.le_of_ble_eq_true rfl) (d' := 2) (by decide) (c_X12_number (l := x.2.1) v0 (0 : Int32) (999 : Int32) h3 g6) ?_
    obtain ⟨r11, h12, g10, e⟩ := ob2_some e
    obtain ⟨g13, e⟩ := gd_some e
    refine V_callV (pc := 26) (bc := 0) (bs := 0) (mc := 0) (ms := 0) (st := []) (As := [.int (((11 : Int32) + ((4 : Int32) * r2)) + (3 : Int32)), .int r7]) (a := v0) (h' := h12) (r := some (.int r11)) dX12_readSnow_26 ml_X12_119 (ci := 11) rfl (of_decide_eq_true g13) rfl rfl (Nat.le_of_ble_eq_true rfl) (d' := 0) (by decide) (c_X12_sets (l := x.2.1) v0 (((11 : Int32) + ((4 : Int32) * r2)) + (3 : Int32)) r7 h8 g10) ?_
    refine V_if_eq (pc := 29) (tgt := 36) dX12_readSnow_29 (by decide) (fun c14 => ?_) (fun c14 => ?_)
    · rw [if_pos c14] at e
      exact V_pick [] rfl (r_X12_readSnow_b36 h12 e hF)
    · rw [if_neg c14] at e
      refine V_pick [] rfl ?_
      refine V_iconst (pc := 32) (v := (1 : Int32)) dX12_readSnow_32 (by decide) ?_
      refine V_goto (pc := 33) (tgt := 37) dX12_readSnow_33 (by decide) ?_
      exact V_pick [] rfl (r_X12_readSnow_b37 (1 : Int32) h12 e hF)
def F_X12_readSnow (v0 : Nat) (h : Hp) : Option (Int32 × Hp) := F_X12_readSnow_b0 v0 h
theorem c_X12_readSnow {l : Launch} (v0 : Nat) (h : Hp) {r : Int32} {hz : Hp} (e : F_X12_readSnow v0 h = some (r, hz)) : Ct l yX12_readSnow M_X12_readSnow (some .boolean) 4 [.ref v0] h 0 0 (some (.int r)) hz :=
  Ct_of rfl rfl (fun q => by cases q) (Nat.le_of_ble_eq_true rfl) (fun x _ hF => V_pick [0] rfl (r_X12_readSnow_b0 v0 h e hF))
theorem dX12_readTurned_0 : decode cX12_readTurned 0 = .ok (.aload_n 0, 1) := by decide +kernel
theorem dX12_readTurned_1 : decode cX12_readTurned 1 = .ok (.invokevirtual 126, 3) := by decide +kernel
theorem dX12_readTurned_4 : decode cX12_readTurned 4 = .ok (.istore_n 2, 1) := by decide +kernel
theorem dX12_readTurned_5 : decode cX12_readTurned 5 = .ok (.iload_n 2, 1) := by decide +kernel
theorem dX12_readTurned_6 : decode cX12_readTurned 6 = .ok (.ifCond .lt 23, 3) := by decide +kernel
theorem dX12_readTurned_9 : decode cX12_readTurned 9 = .ok (.aload_n 0, 1) := by decide +kernel
theorem dX12_readTurned_10 : decode cX12_readTurned 10 = .ok (.getfield 13, 3) := by decide +kernel
theorem dX12_readTurned_13 : decode cX12_readTurned 13 = .ok (.bipush 11, 2) := by decide +kernel
theorem dX12_readTurned_15 : decode cX12_readTurned 15 = .ok (.iconst 4, 1) := by decide +kernel
theorem dX12_readTurned_16 : decode cX12_readTurned 16 = .ok (.iload_n 2, 1) := by decide +kernel
theorem dX12_readTurned_17 : decode cX12_readTurned 17 = .ok (.imul, 1) := by decide +kernel
theorem dX12_readTurned_18 : decode cX12_readTurned 18 = .ok (.iadd, 1) := by decide +kernel
theorem dX12_readTurned_19 : decode cX12_readTurned 19 = .ok (.iload_n 1, 1) := by decide +kernel
theorem dX12_readTurned_20 : decode cX12_readTurned 20 = .ok (.iadd, 1) := by decide +kernel
theorem dX12_readTurned_21 : decode cX12_readTurned 21 = .ok (.aload_n 0, 1) := by decide +kernel
theorem dX12_readTurned_22 : decode cX12_readTurned 22 = .ok (.iload_n 2, 1) := by decide +kernel
theorem dX12_readTurned_23 : decode cX12_readTurned 23 = .ok (.iload_n 1, 1) := by decide +kernel
theorem dX12_readTurned_24 : decode cX12_readTurned 24 = .ok (.invokevirtual 131, 3) := by decide +kernel
theorem dX12_readTurned_27 : decode cX12_readTurned 27 = .ok (.ineg, 1) := by decide +kernel
theorem dX12_readTurned_28 : decode cX12_readTurned 28 = .ok (.iastore, 1) := by decide +kernel
theorem dX12_readTurned_29 : decode cX12_readTurned 29 = .ok (.iload_n 2, 1) := by decide +kernel
theorem dX12_readTurned_30 : decode cX12_readTurned 30 = .ok (.ifCond .lt 7, 3) := by decide +kernel
theorem dX12_readTurned_33 : decode cX12_readTurned 33 = .ok (.iconst 1, 1) := by decide +kernel
theorem dX12_readTurned_34 : decode cX12_readTurned 34 = .ok (.goto 4, 3) := by decide +kernel
theorem dX12_readTurned_37 : decode cX12_readTurned 37 = .ok (.iconst 0, 1) := by decide +kernel
theorem dX12_readTurned_38 : decode cX12_readTurned 38 = .ok (.ireturn, 1) := by decide +kernel
set_option maxRecDepth 100000 in
def F_X12_readTurned_b38 (t0 : Int32) (h : Hp) : Option (Int32 × Hp) :=
  gd (decide (t0 = 0 ∨ t0 = 1)) <| some (t0, h)
set_option maxHeartbeats 4000000 in
set_option maxRecDepth 100000 in
theorem r_X12_readTurned_b38 (t0 : Int32) (h : Hp) {x : Cx} {r : Int32} {hz : Hp} (e : F_X12_readTurned_b38 t0 h = some (r, hz)) (hF : Fin9 M_X12_readTurned x (some .boolean) (some (.int r)) hz) : V M_X12_readTurned x 4 38 [] [.int t0] h 0 0 := by
  unfold F_X12_readTurned_b38 at e
  obtain ⟨g5, e⟩ := gd_some e
  cases e
  exact V_zret (pc := 38) dX12_readTurned_38 (z01 (of_decide_eq_true g5)) hF
set_option maxRecDepth 100000 in
def F_X12_readTurned_b29 (v2 : Int32) (h : Hp) : Option (Int32 × Hp) :=
  (if v2 < 0 then F_X12_readTurned_b38 (0 : Int32) h else F_X12_readTurned_b38 (1 : Int32) h)
set_option maxHeartbeats 4000000 in
set_option maxRecDepth 100000 in
theorem r_X12_readTurned_b29 (v2 : Int32) (h : Hp) {x : Cx} {r : Int32} {hz : Hp} (e : F_X12_readTurned_b29 v2 h = some (r, hz)) (hF : Fin9 M_X12_readTurned x (some .boolean) (some (.int r)) hz) : V M_X12_readTurned x 4 29 [(2, .int v2)] [] h 0 0 := by
  unfold F_X12_readTurned_b29 at e
  refine V_iload_n (pc := 29) (i := 2) dX12_readTurned_29 rfl rfl ?_
  refine V_if_lt (pc := 30) (tgt := 37) dX12_readTurned_30 (by decide) (fun c6 => ?_) (fun c6 => ?_)
  · rw [if_pos c6] at e
    refine V_pick [] rfl ?_
    refine V_iconst (pc := 37) (v := (0 : Int32)) dX12_readTurned_37 (by decide) ?_
    exact V_pick [] rfl (r_X12_readTurned_b38 (0 : Int32) h e hF)
  · rw [if_neg c6] at e
    refine V_pick [] rfl ?_
    refine V_iconst (pc := 33) (v := (1 : Int32)) dX12_readTurned_33 (by decide) ?_
    refine V_goto (pc := 34) (tgt := 38) dX12_readTurned_34 (by decide) ?_
    exact V_pick [] rfl (r_X12_readTurned_b38 (1 : Int32) h e hF)
set_option maxRecDepth 100000 in
def F_X12_readTurned_b0 (v0 : Nat) (v1 : Int32) (h : Hp) : Option (Int32 × Hp) :=
  ob2 (F_X12_roomTold v0 h) fun r2 h3 => gd (decide (kd h v0 = 11)) <| (if r2 < 0 then F_X12_readTurned_b29 r2 h3 else gd (decide (kd h3 v0 = 11)) <| ob (zR h3 v0 1) fun q8 => ob (F_X12_ofRoom v0 r2 v1 h3) fun r11 => gd (decide (kd h3 q8 = 13)) <| gd (ix (((11 : Int32) + ((4 : Int32) * r2)) + v1) (zl h3 q8)) <| F_X12_readTurned_b29 r2 (setI h3 q8 (((11 : Int32) + ((4 : Int32) * r2)) + v1).toNatClampNeg (0 - r11)))
set_option maxHeartbeats 4000000 in
set_option maxRecDepth 100000 in
theorem r_X12_readTurned_b0 (v0 : Nat) (v1 : Int32) (h : Hp) {x : Cx} {r : Int32} {hz : Hp} (e : F_X12_readTurned_b0 v0 v1 h = some (r, hz)) (hF : Fin9 M_X12_readTurned x (some .boolean) (some (.int r)) hz) : V M_X12_readTurned x 4 0 [(0, .ref v0), (1, .int v1)] [] h 0 0 := by
  unfold F_X12_readTurned_b0 at e
  refine V_aload_n (pc := 0) (i := 0) dX12_readTurned_0 rfl rfl ?_
  obtain ⟨r2, h3, g1, e⟩ := ob2_some e
  obtain ⟨g4, e⟩ := gd_some e
  refine V_callV (pc := 1) (bc := 0) (bs := 0) (mc := 0) (ms := 0) (st := []) (As := []) (a := v0) (h' := h3) (r := some (.int r2)) dX12_readTurned_1 ml_X12_126 (ci := 11) rfl (of_decide_eq_true g4) rfl rfl (Nat.le_of_ble_eq_true rfl) (d' := 3) (by decide) (c_X12_roomTold (l := x.2.1) v0 h g1) ?_
  refine V_istore_n (pc := 4) (i := 2) (lv' := [(2, .int r2), (0, .ref v0), (1, .int v1)]) dX12_readTurned_4 rfl (by decide) rfl ?_
  refine V_iload_n (pc := 5) (i := 2) dX12_readTurned_5 rfl rfl ?_
  refine V_if_lt (pc := 6) (tgt := 29) dX12_readTurned_6 (by decide) (fun c14 => ?_) (fun c14 => ?_)
  · rw [if_pos c14] at e
    exact V_pick [0] rfl (r_X12_readTurned_b29 r2 h3 e hF)
  · rw [if_neg c14] at e
    refine V_pick [1, 2, 0] rfl ?_
    refine V_aload_n (pc := 9) (i := 0) dX12_readTurned_9 rfl rfl ?_
    obtain ⟨g7, e⟩ := gd_some e
    obtain ⟨q8, g9, e⟩ := ob_some e
    refine V_getR (pc := 10) (ci := 11) (k := 1) (b := q8) dX12_readTurned_10 fl_X12_13 rfl (of_decide_eq_true g7) g9 ?_
    refine V_bipush (pc := 13) (v := (11 : Int32)) dX12_readTurned_13 (by decide) ?_
    refine V_iconst (pc := 15) (v := (4 : Int32)) dX12_readTurned_15 (by decide) ?_
    refine V_iload_n (pc := 16) (i := 2) dX12_readTurned_16 rfl rfl ?_
    refine V_imul (pc := 17) dX12_readTurned_17 ?_
    refine V_iadd (pc := 18) dX12_readTurned_18 ?_
    refine V_iload_n (pc := 19) (i := 1) dX12_readTurned_19 rfl rfl ?_
    refine V_iadd (pc := 20) dX12_readTurned_20 ?_
    refine V_aload_n (pc := 21) (i := 0) dX12_readTurned_21 rfl rfl ?_
    refine V_iload_n (pc := 22) (i := 2) dX12_readTurned_22 rfl rfl ?_
    refine V_iload_n (pc := 23) (i := 1) dX12_readTurned_23 rfl rfl ?_
    obtain ⟨r11, g10, e⟩ := ob_some e
    refine V_callV (pc := 24) (bc := 0) (bs := 0) (mc := 0) (ms := 0) (st := [.int (((11 : Int32) + ((4 : Int32) * r2)) + v1), .ref q8]) (As := [.int r2, .int v1]) (a := v0) (h' := h3) (r := some (.int r11)) dX12_readTurned_24 ml_X12_131 (ci := 11) rfl (of_decide_eq_true g7) rfl rfl (Nat.le_of_ble_eq_true rfl) (d' := 0) (by decide) (c_X12_ofRoom (l := x.2.1) v0 r2 v1 h3 g10) ?_
    refine V_ineg (pc := 27) dX12_readTurned_27 ?_
    obtain ⟨g12, e⟩ := gd_some e
    obtain ⟨g13, e⟩ := gd_some e
    refine V_iast (pc := 28) dX12_readTurned_28 (of_decide_eq_true g12) (ix_in g13) ?_
    exact V_pick [2] rfl (r_X12_readTurned_b29 r2 (setI h3 q8 (((11 : Int32) + ((4 : Int32) * r2)) + v1).toNatClampNeg (0 - r11)) e hF)
def F_X12_readTurned (v0 : Nat) (v1 : Int32) (h : Hp) : Option (Int32 × Hp) := F_X12_readTurned_b0 v0 v1 h
theorem c_X12_readTurned {l : Launch} (v0 : Nat) (v1 : Int32) (h : Hp) {r : Int32} {hz : Hp} (e : F_X12_readTurned v0 v1 h = some (r, hz)) : Ct l yX12_readTurned M_X12_readTurned (some .boolean) 4 [.ref v0, .int v1] h 0 0 (some (.int r)) hz :=
  Ct_of rfl rfl (fun q => by cases q) (Nat.le_of_ble_eq_true rfl) (fun x _ hF => V_pick [0, 1] rfl (r_X12_readTurned_b0 v0 v1 h e hF))
theorem dX12_readHouseLine_0 : decode cX12_readHouseLine 0 = .ok (.aload_n 0, 1) := by decide +kernel
theorem dX12_readHouseLine_1 : decode cX12_readHouseLine 1 = .ok (.ldc 134, 2) := by decide +kernel
theorem dX12_readHouseLine_3 : decode cX12_readHouseLine 3 = .ok (.invokevirtual 111, 3) := by decide +kernel
theorem dX12_readHouseLine_6 : decode cX12_readHouseLine 6 = .ok (.ifCond .eq 8, 3) := by decide +kernel
theorem dX12_readHouseLine_9 : decode cX12_readHouseLine 9 = .ok (.aload_n 0, 1) := by decide +kernel
theorem dX12_readHouseLine_10 : decode cX12_readHouseLine 10 = .ok (.invokevirtual 136, 3) := by decide +kernel
theorem dX12_readHouseLine_13 : decode cX12_readHouseLine 13 = .ok (.ireturn, 1) := by decide +kernel
theorem dX12_readHouseLine_14 : decode cX12_readHouseLine 14 = .ok (.aload_n 0, 1) := by decide +kernel
theorem dX12_readHouseLine_15 : decode cX12_readHouseLine 15 = .ok (.ldc 140, 2) := by decide +kernel
theorem dX12_readHouseLine_17 : decode cX12_readHouseLine 17 = .ok (.invokevirtual 111, 3) := by decide +kernel
theorem dX12_readHouseLine_20 : decode cX12_readHouseLine 20 = .ok (.ifCond .eq 8, 3) := by decide +kernel
theorem dX12_readHouseLine_23 : decode cX12_readHouseLine 23 = .ok (.aload_n 0, 1) := by decide +kernel
theorem dX12_readHouseLine_24 : decode cX12_readHouseLine 24 = .ok (.invokevirtual 142, 3) := by decide +kernel
theorem dX12_readHouseLine_27 : decode cX12_readHouseLine 27 = .ok (.ireturn, 1) := by decide +kernel
theorem dX12_readHouseLine_28 : decode cX12_readHouseLine 28 = .ok (.aload_n 0, 1) := by decide +kernel
theorem dX12_readHouseLine_29 : decode cX12_readHouseLine 29 = .ok (.ldc 145, 2) := by decide +kernel
theorem dX12_readHouseLine_31 : decode cX12_readHouseLine 31 = .ok (.invokevirtual 111, 3) := by decide +kernel
theorem dX12_readHouseLine_34 : decode cX12_readHouseLine 34 = .ok (.ifCond .eq 8, 3) := by decide +kernel
theorem dX12_readHouseLine_37 : decode cX12_readHouseLine 37 = .ok (.aload_n 0, 1) := by decide +kernel
theorem dX12_readHouseLine_38 : decode cX12_readHouseLine 38 = .ok (.invokevirtual 147, 3) := by decide +kernel
theorem dX12_readHouseLine_41 : decode cX12_readHouseLine 41 = .ok (.ireturn, 1) := by decide +kernel
theorem dX12_readHouseLine_42 : decode cX12_readHouseLine 42 = .ok (.aload_n 0, 1) := by decide +kernel
theorem dX12_readHouseLine_43 : decode cX12_readHouseLine 43 = .ok (.ldc 150, 2) := by decide +kernel
theorem dX12_readHouseLine_45 : decode cX12_readHouseLine 45 = .ok (.invokevirtual 111, 3) := by decide +kernel
theorem dX12_readHouseLine_48 : decode cX12_readHouseLine 48 = .ok (.ifCond .eq 8, 3) := by decide +kernel
theorem dX12_readHouseLine_51 : decode cX12_readHouseLine 51 = .ok (.aload_n 0, 1) := by decide +kernel
theorem dX12_readHouseLine_52 : decode cX12_readHouseLine 52 = .ok (.invokevirtual 152, 3) := by decide +kernel
theorem dX12_readHouseLine_55 : decode cX12_readHouseLine 55 = .ok (.ireturn, 1) := by decide +kernel
theorem dX12_readHouseLine_56 : decode cX12_readHouseLine 56 = .ok (.aload_n 0, 1) := by decide +kernel
theorem dX12_readHouseLine_57 : decode cX12_readHouseLine 57 = .ok (.ldc 155, 2) := by decide +kernel
theorem dX12_readHouseLine_59 : decode cX12_readHouseLine 59 = .ok (.invokevirtual 111, 3) := by decide +kernel
theorem dX12_readHouseLine_62 : decode cX12_readHouseLine 62 = .ok (.ifCond .eq 8, 3) := by decide +kernel
theorem dX12_readHouseLine_65 : decode cX12_readHouseLine 65 = .ok (.aload_n 0, 1) := by decide +kernel
theorem dX12_readHouseLine_66 : decode cX12_readHouseLine 66 = .ok (.invokevirtual 157, 3) := by decide +kernel
theorem dX12_readHouseLine_69 : decode cX12_readHouseLine 69 = .ok (.ireturn, 1) := by decide +kernel
theorem dX12_readHouseLine_70 : decode cX12_readHouseLine 70 = .ok (.aload_n 0, 1) := by decide +kernel
theorem dX12_readHouseLine_71 : decode cX12_readHouseLine 71 = .ok (.ldc 160, 2) := by decide +kernel
theorem dX12_readHouseLine_73 : decode cX12_readHouseLine 73 = .ok (.invokevirtual 111, 3) := by decide +kernel
theorem dX12_readHouseLine_76 : decode cX12_readHouseLine 76 = .ok (.ifCond .eq 17, 3) := by decide +kernel
theorem dX12_readHouseLine_79 : decode cX12_readHouseLine 79 = .ok (.aload_n 0, 1) := by decide +kernel
theorem dX12_readHouseLine_80 : decode cX12_readHouseLine 80 = .ok (.bipush 8, 2) := by decide +kernel
theorem dX12_readHouseLine_82 : decode cX12_readHouseLine 82 = .ok (.aload_n 0, 1) := by decide +kernel
theorem dX12_readHouseLine_83 : decode cX12_readHouseLine 83 = .ok (.iconst 0, 1) := by decide +kernel
theorem dX12_readHouseLine_84 : decode cX12_readHouseLine 84 = .ok (.ldc 162, 2) := by decide +kernel
theorem dX12_readHouseLine_86 : decode cX12_readHouseLine 86 = .ok (.invokevirtual 115, 3) := by decide +kernel
theorem dX12_readHouseLine_89 : decode cX12_readHouseLine 89 = .ok (.invokevirtual 119, 3) := by decide +kernel
theorem dX12_readHouseLine_92 : decode cX12_readHouseLine 92 = .ok (.ireturn, 1) := by decide +kernel
theorem dX12_readHouseLine_93 : decode cX12_readHouseLine 93 = .ok (.aload_n 0, 1) := by decide +kernel
theorem dX12_readHouseLine_94 : decode cX12_readHouseLine 94 = .ok (.ldc 163, 2) := by decide +kernel
theorem dX12_readHouseLine_96 : decode cX12_readHouseLine 96 = .ok (.invokevirtual 111, 3) := by decide +kernel
theorem dX12_readHouseLine_99 : decode cX12_readHouseLine 99 = .ok (.ifCond .eq 17, 3) := by decide +kernel
theorem dX12_readHouseLine_102 : decode cX12_readHouseLine 102 = .ok (.aload_n 0, 1) := by decide +kernel
theorem dX12_readHouseLine_103 : decode cX12_readHouseLine 103 = .ok (.bipush 9, 2) := by decide +kernel
theorem dX12_readHouseLine_105 : decode cX12_readHouseLine 105 = .ok (.aload_n 0, 1) := by decide +kernel
theorem dX12_readHouseLine_106 : decode cX12_readHouseLine 106 = .ok (.iconst 0, 1) := by decide +kernel
theorem dX12_readHouseLine_107 : decode cX12_readHouseLine 107 = .ok (.ldc 162, 2) := by decide +kernel
theorem dX12_readHouseLine_109 : decode cX12_readHouseLine 109 = .ok (.invokevirtual 115, 3) := by decide +kernel
theorem dX12_readHouseLine_112 : decode cX12_readHouseLine 112 = .ok (.invokevirtual 119, 3) := by decide +kernel
theorem dX12_readHouseLine_115 : decode cX12_readHouseLine 115 = .ok (.ireturn, 1) := by decide +kernel
theorem dX12_readHouseLine_116 : decode cX12_readHouseLine 116 = .ok (.aload_n 0, 1) := by decide +kernel
theorem dX12_readHouseLine_117 : decode cX12_readHouseLine 117 = .ok (.ldc 165, 2) := by decide +kernel
theorem dX12_readHouseLine_119 : decode cX12_readHouseLine 119 = .ok (.invokevirtual 111, 3) := by decide +kernel
theorem dX12_readHouseLine_122 : decode cX12_readHouseLine 122 = .ok (.istore_n 1, 1) := by decide +kernel
theorem dX12_readHouseLine_123 : decode cX12_readHouseLine 123 = .ok (.iload_n 1, 1) := by decide +kernel
theorem dX12_readHouseLine_124 : decode cX12_readHouseLine 124 = .ok (.ifCond .ne 12, 3) := by decide +kernel
theorem dX12_readHouseLine_127 : decode cX12_readHouseLine 127 = .ok (.aload_n 0, 1) := by decide +kernel
theorem dX12_readHouseLine_128 : decode cX12_readHouseLine 128 = .ok (.ldc 167, 2) := by decide +kernel
theorem dX12_readHouseLine_130 : decode cX12_readHouseLine 130 = .ok (.invokevirtual 111, 3) := by decide +kernel
theorem dX12_readHouseLine_133 : decode cX12_readHouseLine 133 = .ok (.ifCond .eq 23, 3) := by decide +kernel
theorem dX12_readHouseLine_136 : decode cX12_readHouseLine 136 = .ok (.aload_n 0, 1) := by decide +kernel
theorem dX12_readHouseLine_137 : decode cX12_readHouseLine 137 = .ok (.iload_n 1, 1) := by decide +kernel
theorem dX12_readHouseLine_138 : decode cX12_readHouseLine 138 = .ok (.ifCond .eq 7, 3) := by decide +kernel
theorem dX12_readHouseLine_141 : decode cX12_readHouseLine 141 = .ok (.iconst 0, 1) := by decide +kernel
theorem dX12_readHouseLine_142 : decode cX12_readHouseLine 142 = .ok (.goto 4, 3) := by decide +kernel
theorem dX12_readHouseLine_145 : decode cX12_readHouseLine 145 = .ok (.iconst 1, 1) := by decide +kernel
theorem dX12_readHouseLine_146 : decode cX12_readHouseLine 146 = .ok (.invokevirtual 169, 3) := by decide +kernel
theorem dX12_readHouseLine_149 : decode cX12_readHouseLine 149 = .ok (.ifCond .eq 7, 3) := by decide +kernel
theorem dX12_readHouseLine_152 : decode cX12_readHouseLine 152 = .ok (.iconst 1, 1) := by decide +kernel
theorem dX12_readHouseLine_153 : decode cX12_readHouseLine 153 = .ok (.goto 4, 3) := by decide +kernel
theorem dX12_readHouseLine_156 : decode cX12_readHouseLine 156 = .ok (.iconst 0, 1) := by decide +kernel
theorem dX12_readHouseLine_157 : decode cX12_readHouseLine 157 = .ok (.ireturn, 1) := by decide +kernel
set_option maxRecDepth 100000 in
def F_X12_readHouseLine_b157 (t0 : Int32) (h : Hp) : Option (Int32 × Hp) :=
  gd (decide (t0 = 0 ∨ t0 = 1)) <| some (t0, h)
set_option maxHeartbeats 4000000 in
set_option maxRecDepth 100000 in
theorem r_X12_readHouseLine_b157 (t0 : Int32) (h : Hp) {x : Cx} {r : Int32} {hz : Hp} (e : F_X12_readHouseLine_b157 t0 h = some (r, hz)) (hF : Fin9 M_X12_readHouseLine x (some .boolean) (some (.int r)) hz) : V M_X12_readHouseLine x 7 157 [] [.int t0] h 0 0 := by
  unfold F_X12_readHouseLine_b157 at e
  obtain ⟨g22, e⟩ := gd_some e
  cases e
  exact V_zret (pc := 157) dX12_readHouseLine_157 (z01 (of_decide_eq_true g22)) hF
set_option maxRecDepth 100000 in
def F_X12_readHouseLine_b156  (h : Hp) : Option (Int32 × Hp) :=
  F_X12_readHouseLine_b157 (0 : Int32) h
set_option maxHeartbeats 4000000 in
set_option maxRecDepth 100000 in
theorem r_X12_readHouseLine_b156  (h : Hp) {x : Cx} {r : Int32} {hz : Hp} (e : F_X12_readHouseLine_b156  h = some (r, hz)) (hF : Fin9 M_X12_readHouseLine x (some .boolean) (some (.int r)) hz) : V M_X12_readHouseLine x 7 156 [] [] h 0 0 := by
  unfold F_X12_readHouseLine_b156 at e
  refine V_iconst (pc := 156) (v := (0 : Int32)) dX12_readHouseLine_156 (by decide) ?_
  exact V_pick [] rfl (r_X12_readHouseLine_b157 (0 : Int32) h e hF)
set_option maxRecDepth 100000 in
def F_X12_readHouseLine_b146 (t0 : Nat) (t1 : Int32) (h : Hp) : Option (Int32 × Hp) :=
  ob2 (F_X12_readTurned t0 t1 h) fun r19 h20 => gd (decide (kd h t0 = 11)) <| (if r19 = 0 then F_X12_readHouseLine_b156 h20 else F_X12_readHouseLine_b157 (1 : Int32) h20)
set_option maxHeartbeats 4000000 in
set_option maxRecDepth 100000 in
theorem r_X12_readHouseLine_b146 (t0 : Nat) (t1 : Int32) (h : Hp) {x : Cx} {r : Int32} {hz : Hp} (e : F_X12_readHouseLine_b146 t0 t1 h = some (r, hz)) (hF : Fin9 M_X12_readHouseLine x (some .boolean) (some (.int r)) hz) : V M_X12_readHouseLine x 7 146 [] [.int t1, .ref t0] h 0 0 := by
  unfold F_X12_readHouseLine_b146 at e
  obtain ⟨r19, h20, g18, e⟩ := ob2_some e
  obtain ⟨g21, e⟩ := gd_some e
  refine V_callV (pc := 146) (bc := 0) (bs := 0) (mc := 0) (ms := 0) (st := []) (As := [.int t1]) (a := t0) (h' := h20) (r := some (.int r19)) dX12_readHouseLine_146 ml_X12_169 (ci := 11) rfl (of_decide_eq_true g21) rfl rfl (Nat.le_of_ble_eq_true rfl) (d' := 4) (by decide) (c_X12_readTurned (l := x.2.1) t0 t1 h g18) ?_
  refine V_if_eq (pc := 149) (tgt := 156) dX12_readHouseLine_149 (by decide) (fun c23 => ?_) (fun c23 => ?_)
  · rw [if_pos c23] at e
    exact V_pick [] rfl (r_X12_readHouseLine_b156 h20 e hF)
  · rw [if_neg c23] at e
    refine V_pick [] rfl ?_
    refine V_iconst (pc := 152) (v := (1 : Int32)) dX12_readHouseLine_152 (by decide) ?_
    refine V_goto (pc := 153) (tgt := 157) dX12_readHouseLine_153 (by decide) ?_
    exact V_pick [] rfl (r_X12_readHouseLine_b157 (1 : Int32) h20 e hF)
set_option maxRecDepth 100000 in
def F_X12_readHouseLine_b136 (v0 : Nat) (v1 : Int32) (h : Hp) : Option (Int32 × Hp) :=
  (if v1 = 0 then F_X12_readHouseLine_b146 v0 (1 : Int32) h else F_X12_readHouseLine_b146 v0 (0 : Int32) h)
set_option maxHeartbeats 4000000 in
set_option maxRecDepth 100000 in
theorem r_X12_readHouseLine_b136 (v0 : Nat) (v1 : Int32) (h : Hp) {x : Cx} {r : Int32} {hz : Hp} (e : F_X12_readHouseLine_b136 v0 v1 h = some (r, hz)) (hF : Fin9 M_X12_readHouseLine x (some .boolean) (some (.int r)) hz) : V M_X12_readHouseLine x 7 136 [(0, .ref v0), (1, .int v1)] [] h 0 0 := by
  unfold F_X12_readHouseLine_b136 at e
  refine V_aload_n (pc := 136) (i := 0) dX12_readHouseLine_136 rfl rfl ?_
  refine V_iload_n (pc := 137) (i := 1) dX12_readHouseLine_137 rfl rfl ?_
  refine V_if_eq (pc := 138) (tgt := 145) dX12_readHouseLine_138 (by decide) (fun c24 => ?_) (fun c24 => ?_)
  · rw [if_pos c24] at e
    refine V_pick [] rfl ?_
    refine V_iconst (pc := 145) (v := (1 : Int32)) dX12_readHouseLine_145 (by decide) ?_
    exact V_pick [] rfl (r_X12_readHouseLine_b146 v0 (1 : Int32) h e hF)
  · rw [if_neg c24] at e
    refine V_pick [] rfl ?_
    refine V_iconst (pc := 141) (v := (0 : Int32)) dX12_readHouseLine_141 (by decide) ?_
    refine V_goto (pc := 142) (tgt := 146) dX12_readHouseLine_142 (by decide) ?_
    exact V_pick [] rfl (r_X12_readHouseLine_b146 v0 (0 : Int32) h e hF)
set_option maxRecDepth 100000 in
def F_X12_readHouseLine_b0 (v0 : Nat) (h : Hp) : Option (Int32 × Hp) :=
  ob (F_X12_isWord v0 (42 : UInt32) h) fun r2 => gd (decide (kd h v0 = 11)) <| (if r2 = 0 then ob (F_X12_isWord v0 (43 : UInt32) h) fun r5 => (if r5 = 0 then ob (F_X12_isWord v0 (45 : UInt32) h) fun r7 => (if r7 = 0 then ob (F_X12_isWord v0 (47 : UInt32) h) fun r9 => (if r9 = 0 then ob (F_X12_isWord v0 (48 : UInt32) h) fun r11 => (if r11 = 0 then ob (F_X12_isWord v0 (49 : UInt32) h) fun r13 => (if r13 = 0 then ob (F_X12_isWord v0 (50 : UInt32) h) fun r15 => (if r15 = 0 then ob (F_X12_isWord v0 (51 : UInt32) h) fun r17 => (if r17 = 0 then ob (F_X12_isWord v0 (52 : UInt32) h) fun r26 => (if r26 = 0 then F_X12_readHouseLine_b156 h else F_X12_readHouseLine_b136 v0 r17 h) else F_X12_readHouseLine_b136 v0 r17 h) else ob2 (F_X12_number v0 (0 : Int32) (99999 : Int32) h) fun r30 h31 => ob2 (F_X12_sets v0 (9 : Int32) r30 h31) fun r33 h34 => gd (decide (kd h31 v0 = 11)) <| gd (decide (r33 = 0 ∨ r33 = 1)) <| some (r33, h34)) else ob2 (F_X12_number v0 (0 : Int32) (99999 : Int32) h) fun r39 h40 => ob2 (F_X12_sets v0 (8 : Int32) r39 h40) fun r42 h43 => gd (decide (kd h40 v0 = 11)) <| gd (decide (r42 = 0 ∨ r42 = 1)) <| some (r42, h43)) else ob2 (F_X12_readSnow v0 h) fun r48 h49 => gd (decide (r48 = 0 ∨ r48 = 1)) <| some (r48, h49)) else ob2 (F_X12_readStove v0 h) fun r53 h54 => gd (decide (r53 = 0 ∨ r53 = 1)) <| some (r53, h54)) else ob2 (F_X12_readTrunk v0 h) fun r58 h59 => gd (decide (r58 = 0 ∨ r58 = 1)) <| some (r58, h59)) else ob2 (F_X12_readGuest v0 h) fun r63 h64 => gd (decide (r63 = 0 ∨ r63 = 1)) <| some (r63, h64)) else ob2 (F_X12_readRoom v0 h) fun r68 h69 => gd (decide (r68 = 0 ∨ r68 = 1)) <| some (r68, h69))
set_option maxHeartbeats 4000000 in
set_option maxRecDepth 100000 in
theorem r_X12_readHouseLine_b0 (v0 : Nat) (h : Hp) {x : Cx} {r : Int32} {hz : Hp} (e : F_X12_readHouseLine_b0 v0 h = some (r, hz)) (hF : Fin9 M_X12_readHouseLine x (some .boolean) (some (.int r)) hz) : V M_X12_readHouseLine x 7 0 [(0, .ref v0)] [] h 0 0 := by
  unfold F_X12_readHouseLine_b0 at e
  refine V_aload_n (pc := 0) (i := 0) dX12_readHouseLine_0 rfl rfl ?_
  refine V_ldcS (pc := 1) (j := 42) (u := (42 : UInt32)) dX12_readHouseLine_1 rfl (by decide) ?_
  obtain ⟨r2, g1, e⟩ := ob_some e
  obtain ⟨g3, e⟩ := gd_some e
  refine V_callV (pc := 3) (bc := 0) (bs := 0) (mc := 0) (ms := 0) (st := []) (As := [.float (42 : UInt32)]) (a := v0) (h' := h) (r := some (.int r2)) dX12_readHouseLine_3 ml_X12_111 (ci := 11) rfl (of_decide_eq_true g3) rfl rfl (Nat.le_of_ble_eq_true rfl) (d' := 4) (by decide) (c_X12_isWord (l := x.2.1) v0 (42 : UInt32) h g1) ?_
  refine V_if_eq (pc := 6) (tgt := 14) dX12_readHouseLine_6 (by decide) (fun c71 => ?_) (fun c71 => ?_)
  · rw [if_pos c71] at e
    refine V_pick [0] rfl ?_
    refine V_aload_n (pc := 14) (i := 0) dX12_readHouseLine_14 rfl rfl ?_
    refine V_ldcS (pc := 15) (j := 43) (u := (43 : UInt32)) dX12_readHouseLine_15 rfl (by decide) ?_
    obtain ⟨r5, g4, e⟩ := ob_some e
    refine V_callV (pc := 17) (bc := 0) (bs := 0) (mc := 0) (ms := 0) (st := []) (As := [.float (43 : UInt32)]) (a := v0) (h' := h) (r := some (.int r5)) dX12_readHouseLine_17 ml_X12_111 (ci := 11) rfl (of_decide_eq_true g3) rfl rfl (Nat.le_of_ble_eq_true rfl) (d' := 4) (by decide) (c_X12_isWord (l := x.2.1) v0 (43 : UInt32) h g4) ?_
    refine V_if_eq (pc := 20) (tgt := 28) dX12_readHouseLine_20 (by decide) (fun c66 => ?_) (fun c66 => ?_)
    · rw [if_pos c66] at e
      refine V_pick [0] rfl ?_
      refine V_aload_n (pc := 28) (i := 0) dX12_readHouseLine_28 rfl rfl ?_
      refine V_ldcS (pc := 29) (j := 45) (u := (45 : UInt32)) dX12_readHouseLine_29 rfl (by decide) ?_
      obtain ⟨r7, g6, e⟩ := ob_some e
      refine V_callV (pc := 31) (bc := 0) (bs := 0) (mc := 0) (ms := 0) (st := []) (As := [.float (45 : UInt32)]) (a := v0) (h' := h) (r := some (.int r7)) dX12_readHouseLine_31 ml_X12_111 (ci := 11) rfl (of_decide_eq_true g3) rfl rfl (Nat.le_of_ble_eq_true rfl) (d' := 4) (by decide) (c_X12_isWord (l := x.2.1) v0 (45 : UInt32) h g6) ?_
      refine V_if_eq (pc := 34) (tgt := 42) dX12_readHouseLine_34 (by decide) (fun c61 => ?_) (fun c61 => ?_)
      · rw [if_pos c61] at e
        refine V_pick [0] rfl ?_
        refine V_aload_n (pc := 42) (i := 0) dX12_readHouseLine_42 rfl rfl ?_
        refine V_ldcS (pc := 43) (j := 47) (u := (47 : UInt32)) dX12_readHouseLine_43 rfl (by decide) ?_
        obtain ⟨r9, g8, e⟩ := ob_some e
        refine V_callV (pc := 45) (bc := 0) (bs := 0) (mc := 0) (ms := 0) (st := []) (As := [.float (47 : UInt32)]) (a := v0) (h' := h) (r := some (.int r9)) dX12_readHouseLine_45 ml_X12_111 (ci := 11) rfl (of_decide_eq_true g3) rfl rfl (Nat.le_of_ble_eq_true rfl) (d' := 4) (by decide) (c_X12_isWord (l := x.2.1) v0 (47 : UInt32) h g8) ?_
        refine V_if_eq (pc := 48) (tgt := 56) dX12_readHouseLine_48 (by decide) (fun c56 => ?_) (fun c56 => ?_)
        · rw [if_pos c56] at e
          refine V_pick [0] rfl ?_
          refine V_aload_n (pc := 56) (i := 0) dX12_readHouseLine_56 rfl rfl ?_
          refine V_ldcS (pc := 57) (j := 48) (u := (48 : UInt32)) dX12_readHouseLine_57 rfl (by decide) ?_
          obtain ⟨r11, g10, e⟩ := ob_some e
          refine V_callV (pc := 59) (bc := 0) (bs := 0) (mc := 0) (ms := 0) (st := []) (As := [.float (48 : UInt32)]) (a := v0) (h' := h) (r := some (.int r11)) dX12_readHouseLine_59 ml_X12_111 (ci := 11) rfl (of_decide_eq_true g3) rfl rfl (Nat.le_of_ble_eq_true rfl) (d' := 4) (by decide) (c_X12_isWord (l := x.2.1) v0 (48 : UInt32) h g10) ?_
          refine V_if_eq (pc := 62) (tgt := 70) dX12_readHouseLine_62 (by decide) (fun c51 => ?_) (fun c51 => ?_)
          · rw [if_pos c51] at e
            refine V_pick [0] rfl ?_
            refine V_aload_n (pc := 70) (i := 0) dX12_readHouseLine_70 rfl rfl ?_
            refine V_ldcS (pc := 71) (j := 49) (u := (49 : UInt32)) dX12_readHouseLine_71 rfl (by decide) ?_
            obtain ⟨r13, g12, e⟩ := ob_some e
            refine V_callV (pc := 73) (bc := 0) (bs := 0) (mc := 0) (ms := 0) (st := []) (As := [.float (49 : UInt32)]) (a := v0) (h' := h) (r := some (.int r13)) dX12_readHouseLine_73 ml_X12_111 (ci := 11) rfl (of_decide_eq_true g3) rfl rfl (Nat.le_of_ble_eq_true rfl) (d' := 4) (by decide) (c_X12_isWord (l := x.2.1) v0 (49 : UInt32) h g12) ?_
            refine V_if_eq (pc := 76) (tgt := 93) dX12_readHouseLine_76 (by decide) (fun c46 => ?_) (fun c46 => ?_)
            · rw [if_pos c46] at e
              refine V_pick [0] rfl ?_
              refine V_aload_n (pc := 93) (i := 0) dX12_readHouseLine_93 rfl rfl ?_
              refine V_ldcS (pc := 94) (j := 50) (u := (50 : UInt32)) dX12_readHouseLine_94 rfl (by decide) ?_
              obtain ⟨r15, g14, e⟩ := ob_some e
              refine V_callV (pc := 96) (bc := 0) (bs := 0) (mc := 0) (ms := 0) (st := []) (As := [.float (50 : UInt32)]) (a := v0) (h' := h) (r := some (.int r15)) dX12_readHouseLine_96 ml_X12_111 (ci := 11) rfl (of_decide_eq_true g3) rfl rfl (Nat.le_of_ble_eq_true rfl) (d' := 4) (by decide) (c_X12_isWord (l := x.2.1) v0 (50 : UInt32) h g14) ?_
              refine V_if_eq (pc := 99) (tgt := 116) dX12_readHouseLine_99 (by decide) (fun c37 => ?_) (fun c37 => ?_)
              · rw [if_pos c37] at e
                refine V_pick [0] rfl ?_
                refine V_aload_n (pc := 116) (i := 0) dX12_readHouseLine_116 rfl rfl ?_
                refine V_ldcS (pc := 117) (j := 51) (u := (51 : UInt32)) dX12_readHouseLine_117 rfl (by decide) ?_
                obtain ⟨r17, g16, e⟩ := ob_some e
                refine V_callV (pc := 119) (bc := 0) (bs := 0) (mc := 0) (ms := 0) (st := []) (As := [.float (51 : UInt32)]) (a := v0) (h' := h) (r := some (.int r17)) dX12_readHouseLine_119 ml_X12_111 (ci := 11) rfl (of_decide_eq_true g3) rfl rfl (Nat.le_of_ble_eq_true rfl) (d' := 4) (by decide) (c_X12_isWord (l := x.2.1) v0 (51 : UInt32) h g16) ?_
                refine V_istore_n (pc := 122) (i := 1) (lv' := [(1, .int r17), (0, .ref v0)]) dX12_readHouseLine_122 rfl (by decide) rfl ?_
                refine V_iload_n (pc := 123) (i := 1) dX12_readHouseLine_123 rfl rfl ?_
                refine V_if_ne (pc := 124) (tgt := 136) dX12_readHouseLine_124 (by decide) (fun c28 => ?_) (fun c28 => ?_)
                · rw [if_neg c28] at e
                  exact V_pick [1, 0] rfl (r_X12_readHouseLine_b136 v0 r17 h e hF)
                · rw [if_pos c28] at e
                  refine V_pick [1, 0] rfl ?_
                  refine V_aload_n (pc := 127) (i := 0) dX12_readHouseLine_127 rfl rfl ?_
                  refine V_ldcS (pc := 128) (j := 52) (u := (52 : UInt32)) dX12_readHouseLine_128 rfl (by decide) ?_
                  obtain ⟨r26, g25, e⟩ := ob_some e
                  refine V_callV (pc := 130) (bc := 0) (bs := 0) (mc := 0) (ms := 0) (st := []) (As := [.float (52 : UInt32)]) (a := v0) (h' := h) (r := some (.int r26)) dX12_readHouseLine_130 ml_X12_111 (ci := 11) rfl (of_decide_eq_true g3) rfl rfl (Nat.le_of_ble_eq_true rfl) (d' := 4) (by decide) (c_X12_isWord (l := x.2.1) v0 (52 : UInt32) h g25) ?_
                  refine V_if_eq (pc := 133) (tgt := 156) dX12_readHouseLine_133 (by decide) (fun c27 => ?_) (fun c27 => ?_)
                  · rw [if_pos c27] at e
                    exact V_pick [] rfl (r_X12_readHouseLine_b156 h e hF)
                  · rw [if_neg c27] at e
                    exact V_pick [0, 1] rfl (r_X12_readHouseLine_b136 v0 r17 h e hF)
              · rw [if_neg c37] at e
                refine V_pick [0] rfl ?_
                refine V_aload_n (pc := 102) (i := 0) dX12_readHouseLine_102 rfl rfl ?_
                refine V_bipush (pc := 103) (v := (9 : Int32)) dX12_readHouseLine_103 (by decide) ?_
                refine V_aload_n (pc := 105) (i := 0) dX12_readHouseLine_105 rfl rfl ?_
                refine V_iconst (pc := 106) (v := (0 : Int32)) dX12_readHouseLine_106 (by decide) ?_
                refine V_ldc (pc := 107) (v := (99999 : Int32)) dX12_readHouseLine_107 (wk_X12_162) ?_
                obtain ⟨r30, h31, g29, e⟩ := ob2_some e
                refine V_callV (pc := 109) (bc := 0) (bs := 0) (mc := 0) (ms := 0) (st := [.int (9 : Int32), .ref v0]) (As := [.int (0 : Int32), .int (99999 : Int32)]) (a := v0) (h' := h31) (r := some (.int r30)) dX12_readHouseLine_109 ml_X12_115 (ci := 11) rfl (of_decide_eq_true g3) rfl rfl (Nat.le_of_ble_eq_true rfl) (d' := 2) (by decide) (c_X12_number (l := x.2.1) v0 (0 : Int32) (99999 : Int32) h g29) ?_
                obtain ⟨r33, h34, g32, e⟩ := ob2_some e
                obtain ⟨g35, e⟩ := gd_some e
                refine V_callV (pc := 112) (bc := 0) (bs := 0) (mc := 0) (ms := 0) (st := []) (As := [.int (9 : Int32), .int r30]) (a := v0) (h' := h34) (r := some (.int r33)) dX12_readHouseLine_112 ml_X12_119 (ci := 11) rfl (of_decide_eq_true g35) rfl rfl (Nat.le_of_ble_eq_true rfl) (d' := 0) (by decide) (c_X12_sets (l := x.2.1) v0 (9 : Int32) r30 h31 g32) ?_
                obtain ⟨g36, e⟩ := gd_some e
                cases e
                exact V_zret (pc := 115) dX12_readHouseLine_115 (z01 (of_decide_eq_true g36)) hF
            · rw [if_neg c46] at e
              refine V_pick [0] rfl ?_
              refine V_aload_n (pc := 79) (i := 0) dX12_readHouseLine_79 rfl rfl ?_
              refine V_bipush (pc := 80) (v := (8 : Int32)) dX12_readHouseLine_80 (by decide) ?_
              refine V_aload_n (pc := 82) (i := 0) dX12_readHouseLine_82 rfl rfl ?_
              refine V_iconst (pc := 83) (v := (0 : Int32)) dX12_readHouseLine_83 (by decide) ?_
              refine V_ldc (pc := 84) (v := (99999 : Int32)) dX12_readHouseLine_84 (wk_X12_162) ?_
              obtain ⟨r39, h40, g38, e⟩ := ob2_some e
              refine V_callV (pc := 86) (bc := 0) (bs := 0) (mc := 0) (ms := 0) (st := [.int (8 : Int32), .ref v0]) (As := [.int (0 : Int32), .int (99999 : Int32)]) (a := v0) (h' := h40) (r := some (.int r39)) dX12_readHouseLine_86 ml_X12_115 (ci := 11) rfl (of_decide_eq_true g3) rfl rfl (Nat.le_of_ble_eq_true rfl) (d' := 2) (by decide) (c_X12_number (l := x.2.1) v0 (0 : Int32) (99999 : Int32) h g38) ?_
              obtain ⟨r42, h43, g41, e⟩ := ob2_some e
              obtain ⟨g44, e⟩ := gd_some e
              refine V_callV (pc := 89) (bc := 0) (bs := 0) (mc := 0) (ms := 0) (st := []) (As := [.int (8 : Int32), .int r39]) (a := v0) (h' := h43) (r := some (.int r42)) dX12_readHouseLine_89 ml_X12_119 (ci := 11) rfl (of_decide_eq_true g44) rfl rfl (Nat.le_of_ble_eq_true rfl) (d' := 0) (by decide) (c_X12_sets (l := x.2.1) v0 (8 : Int32) r39 h40 g41) ?_
              obtain ⟨g45, e⟩ := gd_some e
              cases e
              exact V_zret (pc := 92) dX12_readHouseLine_92 (z01 (of_decide_eq_true g45)) hF
          · rw [if_neg c51] at e
            refine V_pick [0] rfl ?_
            refine V_aload_n (pc := 65) (i := 0) dX12_readHouseLine_65 rfl rfl ?_
            obtain ⟨r48, h49, g47, e⟩ := ob2_some e
            refine V_callV (pc := 66) (bc := 0) (bs := 0) (mc := 0) (ms := 0) (st := []) (As := []) (a := v0) (h' := h49) (r := some (.int r48)) dX12_readHouseLine_66 ml_X12_157 (ci := 11) rfl (of_decide_eq_true g3) rfl rfl (Nat.le_of_ble_eq_true rfl) (d' := 4) (by decide) (c_X12_readSnow (l := x.2.1) v0 h g47) ?_
            obtain ⟨g50, e⟩ := gd_some e
            cases e
            exact V_zret (pc := 69) dX12_readHouseLine_69 (z01 (of_decide_eq_true g50)) hF
        · rw [if_neg c56] at e
          refine V_pick [0] rfl ?_
          refine V_aload_n (pc := 51) (i := 0) dX12_readHouseLine_51 rfl rfl ?_
          obtain ⟨r53, h54, g52, e⟩ := ob2_some e
          refine V_callV (pc := 52) (bc := 0) (bs := 0) (mc := 0) (ms := 0) (st := []) (As := []) (a := v0) (h' := h54) (r := some (.int r53)) dX12_readHouseLine_52 ml_X12_152 (ci := 11) rfl (of_decide_eq_true g3) rfl rfl (Nat.le_of_ble_eq_true rfl) (d' := 6) (by decide) (c_X12_readStove (l := x.2.1) v0 h g52) ?_
          obtain ⟨g55, e⟩ := gd_some e
          cases e
          exact V_zret (pc := 55) dX12_readHouseLine_55 (z01 (of_decide_eq_true g55)) hF
      · rw [if_neg c61] at e
        refine V_pick [0] rfl ?_
        refine V_aload_n (pc := 37) (i := 0) dX12_readHouseLine_37 rfl rfl ?_
        obtain ⟨r58, h59, g57, e⟩ := ob2_some e
        refine V_callV (pc := 38) (bc := 0) (bs := 0) (mc := 0) (ms := 0) (st := []) (As := []) (a := v0) (h' := h59) (r := some (.int r58)) dX12_readHouseLine_38 ml_X12_147 (ci := 11) rfl (of_decide_eq_true g3) rfl rfl (Nat.le_of_ble_eq_true rfl) (d' := 6) (by decide) (c_X12_readTrunk (l := x.2.1) v0 h g57) ?_
        obtain ⟨g60, e⟩ := gd_some e
        cases e
        exact V_zret (pc := 41) dX12_readHouseLine_41 (z01 (of_decide_eq_true g60)) hF
    · rw [if_neg c66] at e
      refine V_pick [0] rfl ?_
      refine V_aload_n (pc := 23) (i := 0) dX12_readHouseLine_23 rfl rfl ?_
      obtain ⟨r63, h64, g62, e⟩ := ob2_some e
      refine V_callV (pc := 24) (bc := 0) (bs := 0) (mc := 0) (ms := 0) (st := []) (As := []) (a := v0) (h' := h64) (r := some (.int r63)) dX12_readHouseLine_24 ml_X12_142 (ci := 11) rfl (of_decide_eq_true g3) rfl rfl (Nat.le_of_ble_eq_true rfl) (d' := 6) (by decide) (c_X12_readGuest (l := x.2.1) v0 h g62) ?_
      obtain ⟨g65, e⟩ := gd_some e
      cases e
      exact V_zret (pc := 27) dX12_readHouseLine_27 (z01 (of_decide_eq_true g65)) hF
  · rw [if_neg c71] at e
    refine V_pick [0] rfl ?_
    refine V_aload_n (pc := 9) (i := 0) dX12_readHouseLine_9 rfl rfl ?_
    obtain ⟨r68, h69, g67, e⟩ := ob2_some e
    refine V_callV (pc := 10) (bc := 0) (bs := 0) (mc := 0) (ms := 0) (st := []) (As := []) (a := v0) (h' := h69) (r := some (.int r68)) dX12_readHouseLine_10 ml_X12_136 (ci := 11) rfl (of_decide_eq_true g3) rfl rfl (Nat.le_of_ble_eq_true rfl) (d' := 3) (by decide) (c_X12_readRoom (l := x.2.1) v0 h g67) ?_
    obtain ⟨g70, e⟩ := gd_some e
    cases e
    exact V_zret (pc := 13) dX12_readHouseLine_13 (z01 (of_decide_eq_true g70)) hF
def F_X12_readHouseLine (v0 : Nat) (h : Hp) : Option (Int32 × Hp) := F_X12_readHouseLine_b0 v0 h
theorem c_X12_readHouseLine {l : Launch} (v0 : Nat) (h : Hp) {r : Int32} {hz : Hp} (e : F_X12_readHouseLine v0 h = some (r, hz)) : Ct l yX12_readHouseLine M_X12_readHouseLine (some .boolean) 7 [.ref v0] h 0 0 (some (.int r)) hz :=
  Ct_of rfl rfl (fun q => by cases q) (Nat.le_of_ble_eq_true rfl) (fun x _ hF => V_pick [0] rfl (r_X12_readHouseLine_b0 v0 h e hF))

theorem dX6_hasMore_0 : decode cX6_hasMore 0 = .ok (.aload_n 0, 1) := by decide +kernel
theorem dX6_hasMore_1 : decode cX6_hasMore 1 = .ok (.getfield 19, 3) := by decide +kernel
theorem dX6_hasMore_4 : decode cX6_hasMore 4 = .ok (.ifCond .eq 7, 3) := by decide +kernel
theorem dX6_hasMore_7 : decode cX6_hasMore 7 = .ok (.iconst 1, 1) := by decide +kernel
theorem dX6_hasMore_8 : decode cX6_hasMore 8 = .ok (.goto 4, 3) := by decide +kernel
theorem dX6_hasMore_11 : decode cX6_hasMore 11 = .ok (.iconst 0, 1) := by decide +kernel
theorem dX6_hasMore_12 : decode cX6_hasMore 12 = .ok (.ireturn, 1) := by decide +kernel
set_option maxRecDepth 100000 in
def F_X6_hasMore_b12 (t0 : Int32) (h : Hp) : Option Int32 :=
  gd (decide (t0 = 0 ∨ t0 = 1)) <| some t0
set_option maxHeartbeats 4000000 in
set_option maxRecDepth 100000 in
theorem r_X6_hasMore_b12 (t0 : Int32) (h : Hp) {x : Cx} {r : Int32} (e : F_X6_hasMore_b12 t0 h = some r) (hF : Fin9 M_X6_hasMore x (some .boolean) (some (.int r)) h) : V M_X6_hasMore x 0 12 [] [.int t0] h 0 0 := by
  unfold F_X6_hasMore_b12 at e
  obtain ⟨g2, e⟩ := gd_some e
  cases e
  exact V_zret (pc := 12) dX6_hasMore_12 (z01 (of_decide_eq_true g2)) hF
set_option maxRecDepth 100000 in
def F_X6_hasMore_b0 (v0 : Nat) (h : Hp) : Option Int32 :=
  gd (decide (kd h v0 = 6)) <| (if (zI h v0 2) = 0 then F_X6_hasMore_b12 (0 : Int32) h else F_X6_hasMore_b12 (1 : Int32) h)
set_option maxHeartbeats 4000000 in
set_option maxRecDepth 100000 in
theorem r_X6_hasMore_b0 (v0 : Nat) (h : Hp) {x : Cx} {r : Int32} (e : F_X6_hasMore_b0 v0 h = some r) (hF : Fin9 M_X6_hasMore x (some .boolean) (some (.int r)) h) : V M_X6_hasMore x 0 0 [(0, .ref v0)] [] h 0 0 := by
  unfold F_X6_hasMore_b0 at e
  refine V_aload_n (pc := 0) (i := 0) dX6_hasMore_0 rfl rfl ?_
  obtain ⟨g1, e⟩ := gd_some e
  refine V_getI (pc := 1) (ci := 6) (k := 2) dX6_hasMore_1 fl_X6_19 rfl (of_decide_eq_true g1) ?_
  refine V_if_eq (pc := 4) (tgt := 11) dX6_hasMore_4 (by decide) (fun c3 => ?_) (fun c3 => ?_)
  · rw [if_pos c3] at e
    refine V_pick [] rfl ?_
    refine V_iconst (pc := 11) (v := (0 : Int32)) dX6_hasMore_11 (by decide) ?_
    exact V_pick [] rfl (r_X6_hasMore_b12 (0 : Int32) h e hF)
  · rw [if_neg c3] at e
    refine V_pick [] rfl ?_
    refine V_iconst (pc := 7) (v := (1 : Int32)) dX6_hasMore_7 (by decide) ?_
    refine V_goto (pc := 8) (tgt := 12) dX6_hasMore_8 (by decide) ?_
    exact V_pick [] rfl (r_X6_hasMore_b12 (1 : Int32) h e hF)
def F_X6_hasMore (v0 : Nat) (h : Hp) : Option Int32 := F_X6_hasMore_b0 v0 h
theorem c_X6_hasMore {l : Launch} (v0 : Nat) (h : Hp) {r : Int32} (e : F_X6_hasMore v0 h = some r) : Ct l yX6_hasMore M_X6_hasMore (some .boolean) 0 [.ref v0] h 0 0 (some (.int r)) h :=
  Ct_of rfl rfl (fun q => by cases q) (Nat.le_of_ble_eq_true rfl) (fun x _ hF => V_pick [0] rfl (r_X6_hasMore_b0 v0 h e hF))
theorem dX6_isSign_0 : decode cX6_isSign 0 = .ok (.aload_n 0, 1) := by decide +kernel
theorem dX6_isSign_1 : decode cX6_isSign 1 = .ok (.getfield 19, 3) := by decide +kernel
theorem dX6_isSign_4 : decode cX6_isSign 4 = .ok (.iconst 3, 1) := by decide +kernel
theorem dX6_isSign_5 : decode cX6_isSign 5 = .ok (.if_icmp .ne 20, 3) := by decide +kernel
theorem dX6_isSign_8 : decode cX6_isSign 8 = .ok (.aload_n 0, 1) := by decide +kernel
theorem dX6_isSign_9 : decode cX6_isSign 9 = .ok (.getfield 9, 3) := by decide +kernel
theorem dX6_isSign_12 : decode cX6_isSign 12 = .ok (.aload_n 0, 1) := by decide +kernel
theorem dX6_isSign_13 : decode cX6_isSign 13 = .ok (.getfield 22, 3) := by decide +kernel
theorem dX6_isSign_16 : decode cX6_isSign 16 = .ok (.baload, 1) := by decide +kernel
theorem dX6_isSign_17 : decode cX6_isSign 17 = .ok (.iload_n 1, 1) := by decide +kernel
theorem dX6_isSign_18 : decode cX6_isSign 18 = .ok (.if_icmp .ne 7, 3) := by decide +kernel
theorem dX6_isSign_21 : decode cX6_isSign 21 = .ok (.iconst 1, 1) := by decide +kernel
theorem dX6_isSign_22 : decode cX6_isSign 22 = .ok (.goto 4, 3) := by decide +kernel
theorem dX6_isSign_25 : decode cX6_isSign 25 = .ok (.iconst 0, 1) := by decide +kernel
theorem dX6_isSign_26 : decode cX6_isSign 26 = .ok (.ireturn, 1) := by decide +kernel
set_option maxRecDepth 100000 in
def F_X6_isSign_b26 (t0 : Int32) (h : Hp) : Option Int32 :=
  gd (decide (t0 = 0 ∨ t0 = 1)) <| some t0
set_option maxHeartbeats 4000000 in
set_option maxRecDepth 100000 in
theorem r_X6_isSign_b26 (t0 : Int32) (h : Hp) {x : Cx} {r : Int32} (e : F_X6_isSign_b26 t0 h = some r) (hF : Fin9 M_X6_isSign x (some .boolean) (some (.int r)) h) : V M_X6_isSign x 0 26 [] [.int t0] h 0 0 := by
  unfold F_X6_isSign_b26 at e
  obtain ⟨g2, e⟩ := gd_some e
  cases e
  exact V_zret (pc := 26) dX6_isSign_26 (z01 (of_decide_eq_true g2)) hF
set_option maxRecDepth 100000 in
def F_X6_isSign_b25  (h : Hp) : Option Int32 :=
  F_X6_isSign_b26 (0 : Int32) h
set_option maxHeartbeats 4000000 in
set_option maxRecDepth 100000 in
theorem r_X6_isSign_b25  (h : Hp) {x : Cx} {r : Int32} (e : F_X6_isSign_b25  h = some r) (hF : Fin9 M_X6_isSign x (some .boolean) (some (.int r)) h) : V M_X6_isSign x 0 25 [] [] h 0 0 := by
  unfold F_X6_isSign_b25 at e
  refine V_iconst (pc := 25) (v := (0 : Int32)) dX6_isSign_25 (by decide) ?_
  exact V_pick [] rfl (r_X6_isSign_b26 (0 : Int32) h e hF)
set_option maxRecDepth 100000 in
def F_X6_isSign_b0 (v0 : Nat) (v1 : Int32) (h : Hp) : Option Int32 :=
  gd (decide (kd h v0 = 6)) <| (if (zI h v0 2) = (3 : Int32) then ob (zR h v0 0) fun q3 => gd (decide (kd h q3 = 12)) <| gd (ix (zI h v0 3) (zl h q3)) <| (if (zI h q3 (zI h v0 3).toNatClampNeg) = v1 then F_X6_isSign_b26 (1 : Int32) h else F_X6_isSign_b25 h) else F_X6_isSign_b25 h)
set_option maxHeartbeats 4000000 in
set_option maxRecDepth 100000 in
theorem r_X6_isSign_b0 (v0 : Nat) (v1 : Int32) (h : Hp) {x : Cx} {r : Int32} (e : F_X6_isSign_b0 v0 v1 h = some r) (hF : Fin9 M_X6_isSign x (some .boolean) (some (.int r)) h) : V M_X6_isSign x 0 0 [(0, .ref v0), (1, .int v1)] [] h 0 0 := by
  unfold F_X6_isSign_b0 at e
  refine V_aload_n (pc := 0) (i := 0) dX6_isSign_0 rfl rfl ?_
  obtain ⟨g1, e⟩ := gd_some e
  refine V_getI (pc := 1) (ci := 6) (k := 2) dX6_isSign_1 fl_X6_19 rfl (of_decide_eq_true g1) ?_
  refine V_iconst (pc := 4) (v := (3 : Int32)) dX6_isSign_4 (by decide) ?_
  refine V_icmp_ne (pc := 5) (tgt := 25) dX6_isSign_5 (by decide) (fun c8 => ?_) (fun c8 => ?_)
  · rw [if_neg c8] at e
    exact V_pick [] rfl (r_X6_isSign_b25 h e hF)
  · rw [if_pos c8] at e
    refine V_pick [0, 1] rfl ?_
    refine V_aload_n (pc := 8) (i := 0) dX6_isSign_8 rfl rfl ?_
    obtain ⟨q3, g4, e⟩ := ob_some e
    refine V_getR (pc := 9) (ci := 6) (k := 0) (b := q3) dX6_isSign_9 fl_X6_9 rfl (of_decide_eq_true g1) g4 ?_
    refine V_aload_n (pc := 12) (i := 0) dX6_isSign_12 rfl rfl ?_
    refine V_getI (pc := 13) (ci := 6) (k := 3) dX6_isSign_13 fl_X6_22 rfl (of_decide_eq_true g1) ?_
    obtain ⟨g5, e⟩ := gd_some e
    obtain ⟨g6, e⟩ := gd_some e
    refine V_bald (pc := 16) dX6_isSign_16 (of_decide_eq_true g5) (ix_in g6) ?_
    refine V_iload_n (pc := 17) (i := 1) dX6_isSign_17 rfl rfl ?_
    refine V_icmp_ne (pc := 18) (tgt := 25) dX6_isSign_18 (by decide) (fun c7 => ?_) (fun c7 => ?_)
    · rw [if_neg c7] at e
      exact V_pick [] rfl (r_X6_isSign_b25 h e hF)
    · rw [if_pos c7] at e
      refine V_pick [] rfl ?_
      refine V_iconst (pc := 21) (v := (1 : Int32)) dX6_isSign_21 (by decide) ?_
      refine V_goto (pc := 22) (tgt := 26) dX6_isSign_22 (by decide) ?_
      exact V_pick [] rfl (r_X6_isSign_b26 (1 : Int32) h e hF)
def F_X6_isSign (v0 : Nat) (v1 : Int32) (h : Hp) : Option Int32 := F_X6_isSign_b0 v0 v1 h
theorem c_X6_isSign {l : Launch} (v0 : Nat) (v1 : Int32) (h : Hp) {r : Int32} (e : F_X6_isSign v0 v1 h = some r) : Ct l yX6_isSign M_X6_isSign (some .boolean) 0 [.ref v0, .int v1] h 0 0 (some (.int r)) h :=
  Ct_of rfl rfl (fun q => by cases q) (Nat.le_of_ble_eq_true rfl) (fun x _ hF => V_pick [0, 1] rfl (r_X6_isSign_b0 v0 v1 h e hF))
theorem dX6_isWord_0 : decode cX6_isWord 0 = .ok (.aload_n 0, 1) := by decide +kernel
theorem dX6_isWord_1 : decode cX6_isWord 1 = .ok (.getfield 19, 3) := by decide +kernel
theorem dX6_isWord_4 : decode cX6_isWord 4 = .ok (.iconst 1, 1) := by decide +kernel
theorem dX6_isWord_5 : decode cX6_isWord 5 = .ok (.if_icmp .ne 19, 3) := by decide +kernel
theorem dX6_isWord_8 : decode cX6_isWord 8 = .ok (.aload_n 1, 1) := by decide +kernel
theorem dX6_isWord_9 : decode cX6_isWord 9 = .ok (.invokevirtual 43, 3) := by decide +kernel
theorem dX6_isWord_12 : decode cX6_isWord 12 = .ok (.aload_n 0, 1) := by decide +kernel
theorem dX6_isWord_13 : decode cX6_isWord 13 = .ok (.getfield 25, 3) := by decide +kernel
theorem dX6_isWord_16 : decode cX6_isWord 16 = .ok (.aload_n 0, 1) := by decide +kernel
theorem dX6_isWord_17 : decode cX6_isWord 17 = .ok (.getfield 22, 3) := by decide +kernel
theorem dX6_isWord_20 : decode cX6_isWord 20 = .ok (.isub, 1) := by decide +kernel
theorem dX6_isWord_21 : decode cX6_isWord 21 = .ok (.if_icmp .eq 5, 3) := by decide +kernel
theorem dX6_isWord_24 : decode cX6_isWord 24 = .ok (.iconst 0, 1) := by decide +kernel
theorem dX6_isWord_25 : decode cX6_isWord 25 = .ok (.ireturn, 1) := by decide +kernel
theorem dX6_isWord_26 : decode cX6_isWord 26 = .ok (.iconst 0, 1) := by decide +kernel
theorem dX6_isWord_27 : decode cX6_isWord 27 = .ok (.istore_n 2, 1) := by decide +kernel
theorem dX6_isWord_28 : decode cX6_isWord 28 = .ok (.iload_n 2, 1) := by decide +kernel
theorem dX6_isWord_29 : decode cX6_isWord 29 = .ok (.aload_n 1, 1) := by decide +kernel
theorem dX6_isWord_30 : decode cX6_isWord 30 = .ok (.invokevirtual 43, 3) := by decide +kernel
theorem dX6_isWord_33 : decode cX6_isWord 33 = .ok (.if_icmp .ge 30, 3) := by decide +kernel
theorem dX6_isWord_36 : decode cX6_isWord 36 = .ok (.aload_n 0, 1) := by decide +kernel
theorem dX6_isWord_37 : decode cX6_isWord 37 = .ok (.getfield 9, 3) := by decide +kernel
theorem dX6_isWord_40 : decode cX6_isWord 40 = .ok (.aload_n 0, 1) := by decide +kernel
theorem dX6_isWord_41 : decode cX6_isWord 41 = .ok (.getfield 22, 3) := by decide +kernel
theorem dX6_isWord_44 : decode cX6_isWord 44 = .ok (.iload_n 2, 1) := by decide +kernel
theorem dX6_isWord_45 : decode cX6_isWord 45 = .ok (.iadd, 1) := by decide +kernel
theorem dX6_isWord_46 : decode cX6_isWord 46 = .ok (.baload, 1) := by decide +kernel
theorem dX6_isWord_47 : decode cX6_isWord 47 = .ok (.aload_n 1, 1) := by decide +kernel
theorem dX6_isWord_48 : decode cX6_isWord 48 = .ok (.iload_n 2, 1) := by decide +kernel
theorem dX6_isWord_49 : decode cX6_isWord 49 = .ok (.invokevirtual 48, 3) := by decide +kernel
theorem dX6_isWord_52 : decode cX6_isWord 52 = .ok (.if_icmp .eq 5, 3) := by decide +kernel
theorem dX6_isWord_55 : decode cX6_isWord 55 = .ok (.iconst 0, 1) := by decide +kernel
theorem dX6_isWord_56 : decode cX6_isWord 56 = .ok (.ireturn, 1) := by decide +kernel
theorem dX6_isWord_57 : decode cX6_isWord 57 = .ok (.iinc 2 1, 3) := by decide +kernel
theorem dX6_isWord_60 : decode cX6_isWord 60 = .ok (.goto (-32), 3) := by decide +kernel
theorem dX6_isWord_63 : decode cX6_isWord 63 = .ok (.iconst 1, 1) := by decide +kernel
theorem dX6_isWord_64 : decode cX6_isWord 64 = .ok (.ireturn, 1) := by decide +kernel
set_option maxRecDepth 100000 in
def F_X6_isWord_b24  (h : Hp) : Option Int32 :=
  some (0 : Int32)
set_option maxHeartbeats 4000000 in
set_option maxRecDepth 100000 in
theorem r_X6_isWord_b24  (h : Hp) {x : Cx} {r : Int32} (e : F_X6_isWord_b24  h = some r) (hF : Fin9 M_X6_isWord x (some .boolean) (some (.int r)) h) : V M_X6_isWord x 4 24 [] [] h 0 0 := by
  unfold F_X6_isWord_b24 at e
  refine V_iconst (pc := 24) (v := (0 : Int32)) dX6_isWord_24 (by decide) ?_
  cases e
  exact V_zret (pc := 25) dX6_isWord_25 rfl hF
set_option maxRecDepth 100000 in
def F_X6_isWord_l28 (v0 : Nat) (v1 : UInt32) (v2 : Int32) (h : Hp) : Option (Int32 ⊕ (Unit ⊕ Unit)) :=
  gd (decide ((v1).toNat < 64)) <| (if (slen v1) ≤ v2 then some (.inr (.inl ())) else gd (decide (kd h v0 = 6)) <| ob (zR h v0 0) fun q5 => gd (decide (kd h q5 = 12)) <| gd (ix ((zI h v0 3) + v2) (zl h q5)) <| gd (decide ((v1).toNat < 64)) <| gd (ix v2 (sB.getD (v1).toNat []).length) <| (if (zI h q5 ((zI h v0 3) + v2).toNatClampNeg) = (schar v1 v2) then some (.inl (v2 + (1 : Int32))) else some (.inr (.inr ()))))
set_option maxHeartbeats 4000000 in
set_option maxRecDepth 100000 in
theorem r_X6_isWord_l28 (v0 : Nat) (v1 : UInt32) (v2 : Int32) (h : Hp) {x : Cx} {o : (Int32 ⊕ (Unit ⊕ Unit))} (e : F_X6_isWord_l28 v0 v1 v2 h = some o) (kI : ∀ z, o = .inl z → V M_X6_isWord x 4 28 [(0, .ref v0), (1, .float v1), (2, .int z)] [] h 0 0) (kE63 : ∀ z : Unit, o = .inr (.inl z) → V M_X6_isWord x 4 63 [] [] h 0 0) (kE55 : ∀ z : Unit, o = .inr (.inr z) → V M_X6_isWord x 4 55 [] [] h 0 0) : V M_X6_isWord x 4 28 [(0, .ref v0), (1, .float v1), (2, .int v2)] [] h 0 0 := by
  unfold F_X6_isWord_l28 at e
  refine V_iload_n (pc := 28) (i := 2) dX6_isWord_28 rfl rfl ?_
  refine V_saload_n (pc := 29) (i := 1) dX6_isWord_29 rfl rfl ?_
  obtain ⟨g3, e⟩ := gd_some e
  refine V_slen (pc := 30) dX6_isWord_30 ms_X6_43 (of_decide_eq_true g3) (by decide) (Nat.le_of_ble_eq_true rfl) ?_
  refine V_icmp_ge (pc := 33) (tgt := 63) dX6_isWord_33 (by decide) (fun c12 => ?_) (fun c12 => ?_)
  · rw [if_pos c12] at e
    cases e
    exact V_pick [] rfl (kE63 () rfl)
  · rw [if_neg c12] at e
    refine V_pick [0, 1, 2] rfl ?_
    refine V_aload_n (pc := 36) (i := 0) dX6_isWord_36 rfl rfl ?_
    obtain ⟨g4, e⟩ := gd_some e
    obtain ⟨q5, g6, e⟩ := ob_some e
    refine V_getR (pc := 37) (ci := 6) (k := 0) (b := q5) dX6_isWord_37 fl_X6_9 rfl (of_decide_eq_true g4) g6 ?_
    refine V_aload_n (pc := 40) (i := 0) dX6_isWord_40 rfl rfl ?_
    refine V_getI (pc := 41) (ci := 6) (k := 3) dX6_isWord_41 fl_X6_22 rfl (of_decide_eq_true g4) ?_
    refine V_iload_n (pc := 44) (i := 2) dX6_isWord_44 rfl rfl ?_
    refine V_iadd (pc := 45) dX6_isWord_45 ?_
    obtain ⟨g7, e⟩ := gd_some e
    obtain ⟨g8, e⟩ := gd_some e
    refine V_bald (pc := 46) dX6_isWord_46 (of_decide_eq_true g7) (ix_in g8) ?_
    refine V_saload_n (pc := 47) (i := 1) dX6_isWord_47 rfl rfl ?_
    refine V_iload_n (pc := 48) (i := 2) dX6_isWord_48 rfl rfl ?_
    obtain ⟨g9, e⟩ := gd_some e
    obtain ⟨g10, e⟩ := gd_some e
    refine V_schar (pc := 49) dX6_isWord_49 ms_X6_48 (of_decide_eq_true g9) (ix_in g10) (by decide) (Nat.le_of_ble_eq_true rfl) ?_
    refine V_icmp_eq (pc := 52) (tgt := 57) dX6_isWord_52 (by decide) (fun c11 => ?_) (fun c11 => ?_)
    · rw [if_pos c11] at e
      refine V_pick [0, 1, 2] rfl ?_
      refine V_iinc (pc := 57) (i := 2) (u := v2 + (1 : Int32)) (lv' := [(2, .int (v2 + (1 : Int32))), (0, .ref v0), (1, .float v1)]) dX6_isWord_57 rfl rfl (by decide) rfl ?_
      refine V_goto (pc := 60) (tgt := 28) dX6_isWord_60 (by decide) ?_
      cases e
      exact V_pick [1, 2, 0] rfl (kI (v2 + (1 : Int32)) rfl)
    · rw [if_neg c11] at e
      cases e
      exact V_pick [] rfl (kE55 () rfl)
set_option maxRecDepth 100000 in
def F_X6_isWord_b0 (v0 : Nat) (v1 : UInt32) (h : Hp) : Option Int32 :=
  gd (decide (kd h v0 = 6)) <| (if (zI h v0 2) = (1 : Int32) then gd (decide ((v1).toNat < 64)) <| (if (slen v1) = ((zI h v0 4) - (zI h v0 3)) then ob (iter (fun z : Int32 => F_X6_isWord_l28 v0 v1 z h) FU (0 : Int32)) (fun z => sm z (fun _ => some (1 : Int32)) (fun _ => some (0 : Int32))) else F_X6_isWord_b24 h) else F_X6_isWord_b24 h)
set_option maxHeartbeats 4000000 in
set_option maxRecDepth 100000 in
theorem r_X6_isWord_b0 (v0 : Nat) (v1 : UInt32) (h : Hp) {x : Cx} {r : Int32} (e : F_X6_isWord_b0 v0 v1 h = some r) (hF : Fin9 M_X6_isWord x (some .boolean) (some (.int r)) h) : V M_X6_isWord x 4 0 [(0, .ref v0), (1, .float v1)] [] h 0 0 := by
  unfold F_X6_isWord_b0 at e
  refine V_aload_n (pc := 0) (i := 0) dX6_isWord_0 rfl rfl ?_
  obtain ⟨g1, e⟩ := gd_some e
  refine V_getI (pc := 1) (ci := 6) (k := 2) dX6_isWord_1 fl_X6_19 rfl (of_decide_eq_true g1) ?_
  refine V_iconst (pc := 4) (v := (1 : Int32)) dX6_isWord_4 (by decide) ?_
  refine V_icmp_ne (pc := 5) (tgt := 24) dX6_isWord_5 (by decide) (fun c18 => ?_) (fun c18 => ?_)
  · rw [if_neg c18] at e
    exact V_pick [] rfl (r_X6_isWord_b24 h e hF)
  · rw [if_pos c18] at e
    refine V_pick [0, 1] rfl ?_
    refine V_saload_n (pc := 8) (i := 1) dX6_isWord_8 rfl rfl ?_
    obtain ⟨g2, e⟩ := gd_some e
    refine V_slen (pc := 9) dX6_isWord_9 ms_X6_43 (of_decide_eq_true g2) (by decide) (Nat.le_of_ble_eq_true rfl) ?_
    refine V_aload_n (pc := 12) (i := 0) dX6_isWord_12 rfl rfl ?_
    refine V_getI (pc := 13) (ci := 6) (k := 4) dX6_isWord_13 fl_X6_25 rfl (of_decide_eq_true g1) ?_
    refine V_aload_n (pc := 16) (i := 0) dX6_isWord_16 rfl rfl ?_
    refine V_getI (pc := 17) (ci := 6) (k := 3) dX6_isWord_17 fl_X6_22 rfl (of_decide_eq_true g1) ?_
    refine V_isub (pc := 20) dX6_isWord_20 ?_
    refine V_icmp_eq (pc := 21) (tgt := 26) dX6_isWord_21 (by decide) (fun c17 => ?_) (fun c17 => ?_)
    · rw [if_pos c17] at e
      refine V_pick [0, 1] rfl ?_
      refine V_iconst (pc := 26) (v := (0 : Int32)) dX6_isWord_26 (by decide) ?_
      refine V_istore_n (pc := 27) (i := 2) (lv' := [(2, .int (0 : Int32)), (0, .ref v0), (1, .float v1)]) dX6_isWord_27 rfl (by decide) rfl ?_
      refine V_pick [1, 2, 0] rfl ?_
      obtain ⟨y13, g14, e⟩ := ob_some e
      refine iter_V (P := fun z : Int32 => V M_X6_isWord x 4 28 [(0, .ref v0), (1, .float v1), (2, .int z)] [] h 0 0) (E := fun z => Sum.elim (fun z : Unit => V M_X6_isWord x 4 63 [] [] h 0 0) (fun z : Unit => V M_X6_isWord x 4 55 [] [] h 0 0) z) (fun z o e9 k1 k2 => r_X6_isWord_l28 v0 v1 z h e9 (fun z hz9 => k1 z hz9) (fun z hz9 => k2 _ hz9) (fun z hz9 => k2 _ hz9)) _ _ _ g14 ?_
      clear g14
      rcases y13 with y15 | y16
      · replace e : (some (1 : Int32)) = some r := e
        show V M_X6_isWord x 4 63 [] [] h 0 0
        refine V_iconst (pc := 63) (v := (1 : Int32)) dX6_isWord_63 (by decide) ?_
        cases e
        exact V_zret (pc := 64) dX6_isWord_64 rfl hF
      · replace e : (some (0 : Int32)) = some r := e
        show V M_X6_isWord x 4 55 [] [] h 0 0
        refine V_iconst (pc := 55) (v := (0 : Int32)) dX6_isWord_55 (by decide) ?_
        cases e
        exact V_zret (pc := 56) dX6_isWord_56 rfl hF
    · rw [if_neg c17] at e
      exact V_pick [] rfl (r_X6_isWord_b24 h e hF)
def F_X6_isWord (v0 : Nat) (v1 : UInt32) (h : Hp) : Option Int32 := F_X6_isWord_b0 v0 v1 h
theorem c_X6_isWord {l : Launch} (v0 : Nat) (v1 : UInt32) (h : Hp) {r : Int32} (e : F_X6_isWord v0 v1 h = some r) : Ct l yX6_isWord M_X6_isWord (some .boolean) 4 [.ref v0, .float v1] h 0 0 (some (.int r)) h :=
  Ct_of rfl rfl (fun q => by cases q) (Nat.le_of_ble_eq_true rfl) (fun x _ hF => V_pick [0, 1] rfl (r_X6_isWord_b0 v0 v1 h e hF))
theorem dX6_refuse_0 : decode cX6_refuse 0 = .ok (.aload_n 0, 1) := by decide +kernel
theorem dX6_refuse_1 : decode cX6_refuse 1 = .ok (.aload_n 0, 1) := by decide +kernel
theorem dX6_refuse_2 : decode cX6_refuse 2 = .ok (.getfield 22, 3) := by decide +kernel
theorem dX6_refuse_5 : decode cX6_refuse 5 = .ok (.putfield 31, 3) := by decide +kernel
theorem dX6_refuse_8 : decode cX6_refuse 8 = .ok (.iconst 0, 1) := by decide +kernel
theorem dX6_refuse_9 : decode cX6_refuse 9 = .ok (.ireturn, 1) := by decide +kernel
set_option maxRecDepth 100000 in
def F_X6_refuse_b0 (v0 : Nat) (h : Hp) : Option (Int32 × Hp) :=
  gd (decide (kd h v0 = 6)) <| some ((0 : Int32), setI h v0 6 (zI h v0 3))
set_option maxHeartbeats 4000000 in
set_option maxRecDepth 100000 in
theorem r_X6_refuse_b0 (v0 : Nat) (h : Hp) {x : Cx} {r : Int32} {hz : Hp} (e : F_X6_refuse_b0 v0 h = some (r, hz)) (hF : Fin9 M_X6_refuse x (some .boolean) (some (.int r)) hz) : V M_X6_refuse x 0 0 [(0, .ref v0)] [] h 0 0 := by
  unfold F_X6_refuse_b0 at e
  refine V_aload_n (pc := 0) (i := 0) dX6_refuse_0 rfl rfl ?_
  refine V_aload_n (pc := 1) (i := 0) dX6_refuse_1 rfl rfl ?_
  obtain ⟨g1, e⟩ := gd_some e
  refine V_getI (pc := 2) (ci := 6) (k := 3) dX6_refuse_2 fl_X6_22 rfl (of_decide_eq_true g1) ?_
  refine V_putI (pc := 5) (ci := 6) (k := 6) dX6_refuse_5 fp_X6_31 rfl (of_decide_eq_true g1) ?_
  refine V_iconst (pc := 8) (v := (0 : Int32)) dX6_refuse_8 (by decide) ?_
  cases e
  exact V_zret (pc := 9) dX6_refuse_9 rfl hF
def F_X6_refuse (v0 : Nat) (h : Hp) : Option (Int32 × Hp) := F_X6_refuse_b0 v0 h
theorem c_X6_refuse {l : Launch} (v0 : Nat) (h : Hp) {r : Int32} {hz : Hp} (e : F_X6_refuse v0 h = some (r, hz)) : Ct l yX6_refuse M_X6_refuse (some .boolean) 0 [.ref v0] h 0 0 (some (.int r)) hz :=
  Ct_of rfl rfl (fun q => by cases q) (Nat.le_of_ble_eq_true rfl) (fun x _ hF => V_pick [0] rfl (r_X6_refuse_b0 v0 h e hF))
theorem dX6_takeSign_0 : decode cX6_takeSign 0 = .ok (.aload_n 0, 1) := by decide +kernel
theorem dX6_takeSign_1 : decode cX6_takeSign 1 = .ok (.iload_n 1, 1) := by decide +kernel
theorem dX6_takeSign_2 : decode cX6_takeSign 2 = .ok (.invokevirtual 52, 3) := by decide +kernel
theorem dX6_takeSign_5 : decode cX6_takeSign 5 = .ok (.ifCond .ne 8, 3) := by decide +kernel
theorem dX6_takeSign_8 : decode cX6_takeSign 8 = .ok (.aload_n 0, 1) := by decide +kernel
theorem dX6_takeSign_9 : decode cX6_takeSign 9 = .ok (.invokevirtual 56, 3) := by decide +kernel
theorem dX6_takeSign_12 : decode cX6_takeSign 12 = .ok (.ireturn, 1) := by decide +kernel
theorem dX6_takeSign_13 : decode cX6_takeSign 13 = .ok (.aload_n 0, 1) := by decide +kernel
theorem dX6_takeSign_14 : decode cX6_takeSign 14 = .ok (.invokevirtual 34, 3) := by decide +kernel
theorem dX6_takeSign_17 : decode cX6_takeSign 17 = .ok (.iconst 1, 1) := by decide +kernel
theorem dX6_takeSign_18 : decode cX6_takeSign 18 = .ok (.ireturn, 1) := by decide +kernel
set_option maxRecDepth 100000 in
def F_X6_takeSign_b0 (v0 : Nat) (v1 : Int32) (h : Hp) : Option (Int32 × Hp) :=
  ob (F_X6_isSign v0 v1 h) fun r2 => gd (decide (kd h v0 = 6)) <| (if r2 = 0 then ob2 (F_X6_refuse v0 h) fun r8 h9 => gd (decide (r8 = 0 ∨ r8 = 1)) <| some (r8, h9) else ob2 (F_X6_lookAtNext v0 h) fun _ h6 => some ((1 : Int32), h6))
set_option maxHeartbeats 4000000 in
set_option maxRecDepth 100000 in
theorem r_X6_takeSign_b0 (v0 : Nat) (v1 : Int32) (h : Hp) {x : Cx} {r : Int32} {hz : Hp} (e : F_X6_takeSign_b0 v0 v1 h = some (r, hz)) (hF : Fin9 M_X6_takeSign x (some .boolean) (some (.int r)) hz) : V M_X6_takeSign x 2 0 [(0, .ref v0), (1, .int v1)] [] h 0 0 := by
  unfold F_X6_takeSign_b0 at e
  refine V_aload_n (pc := 0) (i := 0) dX6_takeSign_0 rfl rfl ?_
  refine V_iload_n (pc := 1) (i := 1) dX6_takeSign_1 rfl rfl ?_
  obtain ⟨r2, g1, e⟩ := ob_some e
  obtain ⟨g3, e⟩ := gd_some e
  refine V_callV (pc := 2) (bc := 0) (bs := 0) (mc := 0) (ms := 0) (st := []) (As := [.int v1]) (a := v0) (h' := h) (r := some (.int r2)) dX6_takeSign_2 ml_X6_52 (ci := 6) rfl (of_decide_eq_true g3) rfl rfl (Nat.le_of_ble_eq_true rfl) (d' := 0) (by decide) (c_X6_isSign (l := x.2.1) v0 v1 h g1) ?_
  refine V_if_ne (pc := 5) (tgt := 13) dX6_takeSign_5 (by decide) (fun c11 => ?_) (fun c11 => ?_)
  · rw [if_neg c11] at e
    refine V_pick [0] rfl ?_
    refine V_aload_n (pc := 13) (i := 0) dX6_takeSign_13 rfl rfl ?_
    obtain ⟨r5, h6, g4, e⟩ := ob2_some e
    refine V_callV (pc := 14) (bc := 0) (bs := 0) (mc := 0) (ms := 0) (st := []) (As := []) (a := v0) (h' := h6) (r := none) dX6_takeSign_14 ml_X6_34 (ci := 6) rfl (of_decide_eq_true g3) rfl rfl (Nat.le_of_ble_eq_true rfl) (d' := 1) (by decide) (c_X6_lookAtNext (l := x.2.1) v0 h g4) ?_
    refine V_iconst (pc := 17) (v := (1 : Int32)) dX6_takeSign_17 (by decide) ?_
    cases e
    exact V_zret (pc := 18) dX6_takeSign_18 rfl hF
  · rw [if_pos c11] at e
    refine V_pick [0] rfl ?_
    refine V_aload_n (pc := 8) (i := 0) dX6_takeSign_8 rfl rfl ?_
    obtain ⟨r8, h9, g7, e⟩ := ob2_some e
    refine V_callV (pc := 9) (bc := 0) (bs := 0) (mc := 0) (ms := 0) (st := []) (As := []) (a := v0) (h' := h9) (r := some (.int r8)) dX6_takeSign_9 ml_X6_56 (ci := 6) rfl (of_decide_eq_true g3) rfl rfl (Nat.le_of_ble_eq_true rfl) (d' := 0) (by decide) (c_X6_refuse (l := x.2.1) v0 h g7) ?_
    obtain ⟨g10, e⟩ := gd_some e
    cases e
    exact V_zret (pc := 12) dX6_takeSign_12 (z01 (of_decide_eq_true g10)) hF
def F_X6_takeSign (v0 : Nat) (v1 : Int32) (h : Hp) : Option (Int32 × Hp) := F_X6_takeSign_b0 v0 v1 h
theorem c_X6_takeSign {l : Launch} (v0 : Nat) (v1 : Int32) (h : Hp) {r : Int32} {hz : Hp} (e : F_X6_takeSign v0 v1 h = some (r, hz)) : Ct l yX6_takeSign M_X6_takeSign (some .boolean) 2 [.ref v0, .int v1] h 0 0 (some (.int r)) hz :=
  Ct_of rfl rfl (fun q => by cases q) (Nat.le_of_ble_eq_true rfl) (fun x _ hF => V_pick [0, 1] rfl (r_X6_takeSign_b0 v0 v1 h e hF))
theorem dX6_takeWord_0 : decode cX6_takeWord 0 = .ok (.aload_n 0, 1) := by decide +kernel
theorem dX6_takeWord_1 : decode cX6_takeWord 1 = .ok (.aload_n 1, 1) := by decide +kernel
theorem dX6_takeWord_2 : decode cX6_takeWord 2 = .ok (.invokevirtual 60, 3) := by decide +kernel
theorem dX6_takeWord_5 : decode cX6_takeWord 5 = .ok (.ifCond .ne 8, 3) := by decide +kernel
theorem dX6_takeWord_8 : decode cX6_takeWord 8 = .ok (.aload_n 0, 1) := by decide +kernel
theorem dX6_takeWord_9 : decode cX6_takeWord 9 = .ok (.invokevirtual 56, 3) := by decide +kernel
theorem dX6_takeWord_12 : decode cX6_takeWord 12 = .ok (.ireturn, 1) := by decide +kernel
theorem dX6_takeWord_13 : decode cX6_takeWord 13 = .ok (.aload_n 0, 1) := by decide +kernel
theorem dX6_takeWord_14 : decode cX6_takeWord 14 = .ok (.invokevirtual 34, 3) := by decide +kernel
theorem dX6_takeWord_17 : decode cX6_takeWord 17 = .ok (.iconst 1, 1) := by decide +kernel
theorem dX6_takeWord_18 : decode cX6_takeWord 18 = .ok (.ireturn, 1) := by decide +kernel
set_option maxRecDepth 100000 in
def F_X6_takeWord_b0 (v0 : Nat) (v1 : UInt32) (h : Hp) : Option (Int32 × Hp) :=
  ob (F_X6_isWord v0 v1 h) fun r2 => gd (decide (kd h v0 = 6)) <| (if r2 = 0 then ob2 (F_X6_refuse v0 h) fun r8 h9 => gd (decide (r8 = 0 ∨ r8 = 1)) <| some (r8, h9) else ob2 (F_X6_lookAtNext v0 h) fun _ h6 => some ((1 : Int32), h6))
set_option maxHeartbeats 4000000 in
set_option maxRecDepth 100000 in
theorem r_X6_takeWord_b0 (v0 : Nat) (v1 : UInt32) (h : Hp) {x : Cx} {r : Int32} {hz : Hp} (e : F_X6_takeWord_b0 v0 v1 h = some (r, hz)) (hF : Fin9 M_X6_takeWord x (some .boolean) (some (.int r)) hz) : V M_X6_takeWord x 5 0 [(0, .ref v0), (1, .float v1)] [] h 0 0 := by
  unfold F_X6_takeWord_b0 at e
  refine V_aload_n (pc := 0) (i := 0) dX6_takeWord_0 rfl rfl ?_
  refine V_saload_n (pc := 1) (i := 1) dX6_takeWord_1 rfl rfl ?_
  obtain ⟨r2, g1, e⟩ := ob_some e
  obtain ⟨g3, e⟩ := gd_some e
  refine V_callV (pc := 2) (bc := 0) (bs := 0) (mc := 0) (ms := 0) (st := []) (As := [.float v1]) (a := v0) (h' := h) (r := some (.int r2)) dX6_takeWord_2 ml_X6_60 (ci := 6) rfl (of_decide_eq_true g3) rfl rfl (Nat.le_of_ble_eq_true rfl) (d' := 4) (by decide) (c_X6_isWord (l := x.2.1) v0 v1 h g1) ?_
  refine V_if_ne (pc := 5) (tgt := 13) dX6_takeWord_5 (by decide) (fun c11 => ?_) (fun c11 => ?_)
  · rw [if_neg c11] at e
    refine V_pick [0] rfl ?_
    refine V_aload_n (pc := 13) (i := 0) dX6_takeWord_13 rfl rfl ?_
    obtain ⟨r5, h6, g4, e⟩ := ob2_some e
    refine V_callV (pc := 14) (bc := 0) (bs := 0) (mc := 0) (ms := 0) (st := []) (As := []) (a := v0) (h' := h6) (r := none) dX6_takeWord_14 ml_X6_34 (ci := 6) rfl (of_decide_eq_true g3) rfl rfl (Nat.le_of_ble_eq_true rfl) (d' := 1) (by decide) (c_X6_lookAtNext (l := x.2.1) v0 h g4) ?_
    refine V_iconst (pc := 17) (v := (1 : Int32)) dX6_takeWord_17 (by decide) ?_
    cases e
    exact V_zret (pc := 18) dX6_takeWord_18 rfl hF
  · rw [if_pos c11] at e
    refine V_pick [0] rfl ?_
    refine V_aload_n (pc := 8) (i := 0) dX6_takeWord_8 rfl rfl ?_
    obtain ⟨r8, h9, g7, e⟩ := ob2_some e
    refine V_callV (pc := 9) (bc := 0) (bs := 0) (mc := 0) (ms := 0) (st := []) (As := []) (a := v0) (h' := h9) (r := some (.int r8)) dX6_takeWord_9 ml_X6_56 (ci := 6) rfl (of_decide_eq_true g3) rfl rfl (Nat.le_of_ble_eq_true rfl) (d' := 0) (by decide) (c_X6_refuse (l := x.2.1) v0 h g7) ?_
    obtain ⟨g10, e⟩ := gd_some e
    cases e
    exact V_zret (pc := 12) dX6_takeWord_12 (z01 (of_decide_eq_true g10)) hF
def F_X6_takeWord (v0 : Nat) (v1 : UInt32) (h : Hp) : Option (Int32 × Hp) := F_X6_takeWord_b0 v0 v1 h
theorem c_X6_takeWord {l : Launch} (v0 : Nat) (v1 : UInt32) (h : Hp) {r : Int32} {hz : Hp} (e : F_X6_takeWord v0 v1 h = some (r, hz)) : Ct l yX6_takeWord M_X6_takeWord (some .boolean) 5 [.ref v0, .float v1] h 0 0 (some (.int r)) hz :=
  Ct_of rfl rfl (fun q => by cases q) (Nat.le_of_ble_eq_true rfl) (fun x _ hF => V_pick [0, 1] rfl (r_X6_takeWord_b0 v0 v1 h e hF))
theorem dX6_takeNumber_0 : decode cX6_takeNumber 0 = .ok (.aload_n 0, 1) := by decide +kernel
theorem dX6_takeNumber_1 : decode cX6_takeNumber 1 = .ok (.getfield 19, 3) := by decide +kernel
theorem dX6_takeNumber_4 : decode cX6_takeNumber 4 = .ok (.iconst 2, 1) := by decide +kernel
theorem dX6_takeNumber_5 : decode cX6_takeNumber 5 = .ok (.if_icmp .ne 16, 3) := by decide +kernel
theorem dX6_takeNumber_8 : decode cX6_takeNumber 8 = .ok (.aload_n 0, 1) := by decide +kernel
theorem dX6_takeNumber_9 : decode cX6_takeNumber 9 = .ok (.getfield 25, 3) := by decide +kernel
theorem dX6_takeNumber_12 : decode cX6_takeNumber 12 = .ok (.aload_n 0, 1) := by decide +kernel
theorem dX6_takeNumber_13 : decode cX6_takeNumber 13 = .ok (.getfield 22, 3) := by decide +kernel
theorem dX6_takeNumber_16 : decode cX6_takeNumber 16 = .ok (.isub, 1) := by decide +kernel
theorem dX6_takeNumber_17 : decode cX6_takeNumber 17 = .ok (.iconst 5, 1) := by decide +kernel
theorem dX6_takeNumber_18 : decode cX6_takeNumber 18 = .ok (.if_icmp .le 8, 3) := by decide +kernel
theorem dX6_takeNumber_21 : decode cX6_takeNumber 21 = .ok (.aload_n 0, 1) := by decide +kernel
theorem dX6_takeNumber_22 : decode cX6_takeNumber 22 = .ok (.invokevirtual 56, 3) := by decide +kernel
theorem dX6_takeNumber_25 : decode cX6_takeNumber 25 = .ok (.ireturn, 1) := by decide +kernel
theorem dX6_takeNumber_26 : decode cX6_takeNumber 26 = .ok (.iconst 0, 1) := by decide +kernel
theorem dX6_takeNumber_27 : decode cX6_takeNumber 27 = .ok (.istore_n 3, 1) := by decide +kernel
theorem dX6_takeNumber_28 : decode cX6_takeNumber 28 = .ok (.aload_n 0, 1) := by decide +kernel
theorem dX6_takeNumber_29 : decode cX6_takeNumber 29 = .ok (.getfield 22, 3) := by decide +kernel
theorem dX6_takeNumber_32 : decode cX6_takeNumber 32 = .ok (.istore 4, 2) := by decide +kernel
theorem dX6_takeNumber_34 : decode cX6_takeNumber 34 = .ok (.iload 4, 2) := by decide +kernel
theorem dX6_takeNumber_36 : decode cX6_takeNumber 36 = .ok (.aload_n 0, 1) := by decide +kernel
theorem dX6_takeNumber_37 : decode cX6_takeNumber 37 = .ok (.getfield 25, 3) := by decide +kernel
theorem dX6_takeNumber_40 : decode cX6_takeNumber 40 = .ok (.if_icmp .ge 25, 3) := by decide +kernel
theorem dX6_takeNumber_43 : decode cX6_takeNumber 43 = .ok (.bipush 10, 2) := by decide +kernel
theorem dX6_takeNumber_45 : decode cX6_takeNumber 45 = .ok (.iload_n 3, 1) := by decide +kernel
theorem dX6_takeNumber_46 : decode cX6_takeNumber 46 = .ok (.imul, 1) := by decide +kernel
theorem dX6_takeNumber_47 : decode cX6_takeNumber 47 = .ok (.aload_n 0, 1) := by decide +kernel
theorem dX6_takeNumber_48 : decode cX6_takeNumber 48 = .ok (.getfield 9, 3) := by decide +kernel
theorem dX6_takeNumber_51 : decode cX6_takeNumber 51 = .ok (.iload 4, 2) := by decide +kernel
theorem dX6_takeNumber_53 : decode cX6_takeNumber 53 = .ok (.baload, 1) := by decide +kernel
theorem dX6_takeNumber_54 : decode cX6_takeNumber 54 = .ok (.iadd, 1) := by decide +kernel
theorem dX6_takeNumber_55 : decode cX6_takeNumber 55 = .ok (.bipush 48, 2) := by decide +kernel
theorem dX6_takeNumber_57 : decode cX6_takeNumber 57 = .ok (.isub, 1) := by decide +kernel
theorem dX6_takeNumber_58 : decode cX6_takeNumber 58 = .ok (.istore_n 3, 1) := by decide +kernel
theorem dX6_takeNumber_59 : decode cX6_takeNumber 59 = .ok (.iinc 4 1, 3) := by decide +kernel
theorem dX6_takeNumber_62 : decode cX6_takeNumber 62 = .ok (.goto (-28), 3) := by decide +kernel
theorem dX6_takeNumber_65 : decode cX6_takeNumber 65 = .ok (.iload_n 3, 1) := by decide +kernel
theorem dX6_takeNumber_66 : decode cX6_takeNumber 66 = .ok (.iload_n 1, 1) := by decide +kernel
theorem dX6_takeNumber_67 : decode cX6_takeNumber 67 = .ok (.if_icmp .lt 8, 3) := by decide +kernel
theorem dX6_takeNumber_70 : decode cX6_takeNumber 70 = .ok (.iload_n 3, 1) := by decide +kernel
theorem dX6_takeNumber_71 : decode cX6_takeNumber 71 = .ok (.iload_n 2, 1) := by decide +kernel
theorem dX6_takeNumber_72 : decode cX6_takeNumber 72 = .ok (.if_icmp .le 8, 3) := by decide +kernel
theorem dX6_takeNumber_75 : decode cX6_takeNumber 75 = .ok (.aload_n 0, 1) := by decide +kernel
theorem dX6_takeNumber_76 : decode cX6_takeNumber 76 = .ok (.invokevirtual 56, 3) := by decide +kernel
theorem dX6_takeNumber_79 : decode cX6_takeNumber 79 = .ok (.ireturn, 1) := by decide +kernel
theorem dX6_takeNumber_80 : decode cX6_takeNumber 80 = .ok (.aload_n 0, 1) := by decide +kernel
theorem dX6_takeNumber_81 : decode cX6_takeNumber 81 = .ok (.iload_n 3, 1) := by decide +kernel
theorem dX6_takeNumber_82 : decode cX6_takeNumber 82 = .ok (.putfield 28, 3) := by decide +kernel
theorem dX6_takeNumber_85 : decode cX6_takeNumber 85 = .ok (.aload_n 0, 1) := by decide +kernel
theorem dX6_takeNumber_86 : decode cX6_takeNumber 86 = .ok (.invokevirtual 34, 3) := by decide +kernel
theorem dX6_takeNumber_89 : decode cX6_takeNumber 89 = .ok (.iconst 1, 1) := by decide +kernel
theorem dX6_takeNumber_90 : decode cX6_takeNumber 90 = .ok (.ireturn, 1) := by decide +kernel
set_option maxRecDepth 100000 in
def F_X6_takeNumber_b21 (v0 : Nat) (h : Hp) : Option (Int32 × Hp) :=
  ob2 (F_X6_refuse v0 h) fun r3 h4 => gd (decide (kd h v0 = 6)) <| gd (decide (r3 = 0 ∨ r3 = 1)) <| some (r3, h4)
set_option maxHeartbeats 4000000 in
set_option maxRecDepth 100000 in
theorem r_X6_takeNumber_b21 (v0 : Nat) (h : Hp) {x : Cx} {r : Int32} {hz : Hp} (e : F_X6_takeNumber_b21 v0 h = some (r, hz)) (hF : Fin9 M_X6_takeNumber x (some .boolean) (some (.int r)) hz) : V M_X6_takeNumber x 2 21 [(0, .ref v0)] [] h 0 0 := by
  unfold F_X6_takeNumber_b21 at e
  refine V_aload_n (pc := 21) (i := 0) dX6_takeNumber_21 rfl rfl ?_
  obtain ⟨r3, h4, g2, e⟩ := ob2_some e
  obtain ⟨g5, e⟩ := gd_some e
  refine V_callV (pc := 22) (bc := 0) (bs := 0) (mc := 0) (ms := 0) (st := []) (As := []) (a := v0) (h' := h4) (r := some (.int r3)) dX6_takeNumber_22 ml_X6_56 (ci := 6) rfl (of_decide_eq_true g5) rfl rfl (Nat.le_of_ble_eq_true rfl) (d' := 0) (by decide) (c_X6_refuse (l := x.2.1) v0 h g2) ?_
  obtain ⟨g6, e⟩ := gd_some e
  cases e
  exact V_zret (pc := 25) dX6_takeNumber_25 (z01 (of_decide_eq_true g6)) hF
set_option maxRecDepth 100000 in
def F_X6_takeNumber_l34 (v0 : Nat) (v1 : Int32) (v2 : Int32) (v3 : Int32) (v4 : Int32) (h : Hp) : Option ((Int32 × Int32) ⊕ Int32) :=
  gd (decide (kd h v0 = 6)) <| (if (zI h v0 4) ≤ v4 then some (.inr v3) else ob (zR h v0 0) fun q8 => gd (decide (kd h q8 = 12)) <| gd (ix v4 (zl h q8)) <| some (.inl ((((10 : Int32) * v3) + (zI h q8 (v4).toNatClampNeg)) - (48 : Int32), v4 + (1 : Int32))))
set_option maxHeartbeats 4000000 in
set_option maxRecDepth 100000 in
theorem r_X6_takeNumber_l34 (v0 : Nat) (v1 : Int32) (v2 : Int32) (v3 : Int32) (v4 : Int32) (h : Hp) {x : Cx} {o : ((Int32 × Int32) ⊕ Int32)} (e : F_X6_takeNumber_l34 v0 v1 v2 v3 v4 h = some o) (kI : ∀ z, o = .inl z → V M_X6_takeNumber x 2 34 [(0, .ref v0), (1, .int v1), (2, .int v2), (3, .int z.1), (4, .int z.2)] [] h 0 0) (kE65 : ∀ z : Int32, o = .inr z → V M_X6_takeNumber x 2 65 [(0, .ref v0), (1, .int v1), (2, .int v2), (3, .int z)] [] h 0 0) : V M_X6_takeNumber x 2 34 [(0, .ref v0), (1, .int v1), (2, .int v2), (3, .int v3), (4, .int v4)] [] h 0 0 := by
  unfold F_X6_takeNumber_l34 at e
  refine V_iload (pc := 34) (i := 4) dX6_takeNumber_34 rfl ?_
  refine V_aload_n (pc := 36) (i := 0) dX6_takeNumber_36 rfl rfl ?_
  obtain ⟨g7, e⟩ := gd_some e
  refine V_getI (pc := 37) (ci := 6) (k := 4) dX6_takeNumber_37 fl_X6_25 rfl (of_decide_eq_true g7) ?_
  refine V_icmp_ge (pc := 40) (tgt := 65) dX6_takeNumber_40 (by decide) (fun c12 => ?_) (fun c12 => ?_)
  · rw [if_pos c12] at e
    cases e
    exact V_pick [0, 1, 2, 3] rfl (kE65 v3 rfl)
  · rw [if_neg c12] at e
    refine V_pick [0, 1, 2, 3, 4] rfl ?_
    refine V_bipush (pc := 43) (v := (10 : Int32)) dX6_takeNumber_43 (by decide) ?_
    refine V_iload_n (pc := 45) (i := 3) dX6_takeNumber_45 rfl rfl ?_
    refine V_imul (pc := 46) dX6_takeNumber_46 ?_
    refine V_aload_n (pc := 47) (i := 0) dX6_takeNumber_47 rfl rfl ?_
    obtain ⟨q8, g9, e⟩ := ob_some e
    refine V_getR (pc := 48) (ci := 6) (k := 0) (b := q8) dX6_takeNumber_48 fl_X6_9 rfl (of_decide_eq_true g7) g9 ?_
    refine V_iload (pc := 51) (i := 4) dX6_takeNumber_51 rfl ?_
    obtain ⟨g10, e⟩ := gd_some e
    obtain ⟨g11, e⟩ := gd_some e
    refine V_bald (pc := 53) dX6_takeNumber_53 (of_decide_eq_true g10) (ix_in g11) ?_
    refine V_iadd (pc := 54) dX6_takeNumber_54 ?_
    refine V_bipush (pc := 55) (v := (48 : Int32)) dX6_takeNumber_55 (by decide) ?_
    refine V_isub (pc := 57) dX6_takeNumber_57 ?_
    refine V_istore_n (pc := 58) (i := 3) (lv' := [(3, .int ((((10 : Int32) * v3) + (zI h q8 (v4).toNatClampNeg)) - (48 : Int32))), (0, .ref v0), (1, .int v1), (2, .int v2), (4, .int v4)]) dX6_takeNumber_58 rfl (by decide) rfl ?_
    refine V_iinc (pc := 59) (i := 4) (u := v4 + (1 : Int32)) (lv' := [(4, .int (v4 + (1 : Int32))), (3, .int ((((10 : Int32) * v3) + (zI h q8 (v4).toNatClampNeg)) - (48 : Int32))), (0, .ref v0), (1, .int v1), (2, .int v2)]) dX6_takeNumber_59 rfl rfl (by decide) rfl ?_
    refine V_goto (pc := 62) (tgt := 34) dX6_takeNumber_62 (by decide) ?_
    cases e
    exact V_pick [2, 3, 4, 1, 0] rfl (kI ((((10 : Int32) * v3) + (zI h q8 (v4).toNatClampNeg)) - (48 : Int32), v4 + (1 : Int32)) rfl)
set_option maxRecDepth 100000 in
def F_X6_takeNumber_b75 (v0 : Nat) (h : Hp) : Option (Int32 × Hp) :=
  ob2 (F_X6_refuse v0 h) fun r15 h16 => gd (decide (kd h v0 = 6)) <| gd (decide (r15 = 0 ∨ r15 = 1)) <| some (r15, h16)
set_option maxHeartbeats 4000000 in
set_option maxRecDepth 100000 in
theorem r_X6_takeNumber_b75 (v0 : Nat) (h : Hp) {x : Cx} {r : Int32} {hz : Hp} (e : F_X6_takeNumber_b75 v0 h = some (r, hz)) (hF : Fin9 M_X6_takeNumber x (some .boolean) (some (.int r)) hz) : V M_X6_takeNumber x 2 75 [(0, .ref v0)] [] h 0 0 := by
  unfold F_X6_takeNumber_b75 at e
  refine V_aload_n (pc := 75) (i := 0) dX6_takeNumber_75 rfl rfl ?_
  obtain ⟨r15, h16, g14, e⟩ := ob2_some e
  obtain ⟨g17, e⟩ := gd_some e
  refine V_callV (pc := 76) (bc := 0) (bs := 0) (mc := 0) (ms := 0) (st := []) (As := []) (a := v0) (h' := h16) (r := some (.int r15)) dX6_takeNumber_76 ml_X6_56 (ci := 6) rfl (of_decide_eq_true g17) rfl rfl (Nat.le_of_ble_eq_true rfl) (d' := 0) (by decide) (c_X6_refuse (l := x.2.1) v0 h g14) ?_
  obtain ⟨g18, e⟩ := gd_some e
  cases e
  exact V_zret (pc := 79) dX6_takeNumber_79 (z01 (of_decide_eq_true g18)) hF
set_option maxRecDepth 100000 in
def F_X6_takeNumber_b0 (v0 : Nat) (v1 : Int32) (v2 : Int32) (h : Hp) : Option (Int32 × Hp) :=
  gd (decide (kd h v0 = 6)) <| (if (zI h v0 2) = (2 : Int32) then (if ((zI h v0 4) - (zI h v0 3)) ≤ (5 : Int32) then ob (iter (fun z : Int32 × Int32 => F_X6_takeNumber_l34 v0 v1 v2 z.1 z.2 h) FU ((0 : Int32), zI h v0 3)) (fun w13 => (if w13 < v1 then F_X6_takeNumber_b75 v0 h else (if w13 ≤ v2 then ob2 (F_X6_lookAtNext v0 (setI h v0 5 w13)) fun _ h21 => some ((1 : Int32), h21) else F_X6_takeNumber_b75 v0 h))) else F_X6_takeNumber_b21 v0 h) else F_X6_takeNumber_b21 v0 h)
set_option maxHeartbeats 4000000 in
set_option maxRecDepth 100000 in
theorem r_X6_takeNumber_b0 (v0 : Nat) (v1 : Int32) (v2 : Int32) (h : Hp) {x : Cx} {r : Int32} {hz : Hp} (e : F_X6_takeNumber_b0 v0 v1 v2 h = some (r, hz)) (hF : Fin9 M_X6_takeNumber x (some .boolean) (some (.int r)) hz) : V M_X6_takeNumber x 2 0 [(0, .ref v0), (1, .int v1), (2, .int v2)] [] h 0 0 := by
  unfold F_X6_takeNumber_b0 at e
  refine V_aload_n (pc := 0) (i := 0) dX6_takeNumber_0 rfl rfl ?_
  obtain ⟨g1, e⟩ := gd_some e
  refine V_getI (pc := 1) (ci := 6) (k := 2) dX6_takeNumber_1 fl_X6_19 rfl (of_decide_eq_true g1) ?_
  refine V_iconst (pc := 4) (v := (2 : Int32)) dX6_takeNumber_4 (by decide) ?_
  refine V_icmp_ne (pc := 5) (tgt := 21) dX6_takeNumber_5 (by decide) (fun c27 => ?_) (fun c27 => ?_)
  · rw [if_neg c27] at e
    exact V_pick [0] rfl (r_X6_takeNumber_b21 v0 h e hF)
  · rw [if_pos c27] at e
    refine V_pick [0, 1, 2] rfl ?_
    refine V_aload_n (pc := 8) (i := 0) dX6_takeNumber_8 rfl rfl ?_
    refine V_getI (pc := 9) (ci := 6) (k := 4) dX6_takeNumber_9 fl_X6_25 rfl (of_decide_eq_true g1) ?_
    refine V_aload_n (pc := 12) (i := 0) dX6_takeNumber_12 rfl rfl ?_
    refine V_getI (pc := 13) (ci := 6) (k := 3) dX6_takeNumber_13 fl_X6_22 rfl (of_decide_eq_true g1) ?_
    refine V_isub (pc := 16) dX6_takeNumber_16 ?_
    refine V_iconst (pc := 17) (v := (5 : Int32)) dX6_takeNumber_17 (by decide) ?_
    refine V_icmp_le (pc := 18) (tgt := 26) dX6_takeNumber_18 (by decide) (fun c26 => ?_) (fun c26 => ?_)
    · rw [if_pos c26] at e
      refine V_pick [0, 1, 2] rfl ?_
      refine V_iconst (pc := 26) (v := (0 : Int32)) dX6_takeNumber_26 (by decide) ?_
      refine V_istore_n (pc := 27) (i := 3) (lv' := [(3, .int (0 : Int32)), (0, .ref v0), (1, .int v1), (2, .int v2)]) dX6_takeNumber_27 rfl (by decide) rfl ?_
      refine V_aload_n (pc := 28) (i := 0) dX6_takeNumber_28 rfl rfl ?_
      refine V_getI (pc := 29) (ci := 6) (k := 3) dX6_takeNumber_29 fl_X6_22 rfl (of_decide_eq_true g1) ?_
      refine V_istore (pc := 32) (i := 4) (lv' := [(4, .int (zI h v0 3)), (3, .int (0 : Int32)), (0, .ref v0), (1, .int v1), (2, .int v2)]) dX6_takeNumber_32 (by decide) rfl ?_
      refine V_pick [2, 3, 4, 1, 0] rfl ?_
      obtain ⟨y24, g25, e⟩ := ob_some e
      refine iter_V (P := fun z : Int32 × Int32 => V M_X6_takeNumber x 2 34 [(0, .ref v0), (1, .int v1), (2, .int v2), (3, .int z.1), (4, .int z.2)] [] h 0 0) (E := fun z : Int32 => V M_X6_takeNumber x 2 65 [(0, .ref v0), (1, .int v1), (2, .int v2), (3, .int z)] [] h 0 0) (fun z o e9 k1 k2 => r_X6_takeNumber_l34 v0 v1 v2 z.1 z.2 h e9 (fun z hz9 => k1 z hz9) (fun z hz9 => k2 _ hz9)) _ _ _ g25 ?_
      clear g25
      obtain ⟨w13, rfl⟩ : ∃ q, q = y24 := ⟨_, rfl⟩
      replace e : ((if w13 < v1 then F_X6_takeNumber_b75 v0 h else (if w13 ≤ v2 then ob2 (F_X6_lookAtNext v0 (setI h v0 5 w13)) fun _ h21 => some ((1 : Int32), h21) else F_X6_takeNumber_b75 v0 h))) = some (r, hz) := e
      show V M_X6_takeNumber x 2 65 [(0, .ref v0), (1, .int v1), (2, .int v2), (3, .int w13)] [] h 0 0
      refine V_iload_n (pc := 65) (i := 3) dX6_takeNumber_65 rfl rfl ?_
      refine V_iload_n (pc := 66) (i := 1) dX6_takeNumber_66 rfl rfl ?_
      refine V_icmp_lt (pc := 67) (tgt := 75) dX6_takeNumber_67 (by decide) (fun c23 => ?_) (fun c23 => ?_)
      · rw [if_pos c23] at e
        exact V_pick [0] rfl (r_X6_takeNumber_b75 v0 h e hF)
      · rw [if_neg c23] at e
        refine V_pick [0, 2, 3] rfl ?_
        refine V_iload_n (pc := 70) (i := 3) dX6_takeNumber_70 rfl rfl ?_
        refine V_iload_n (pc := 71) (i := 2) dX6_takeNumber_71 rfl rfl ?_
        refine V_icmp_le (pc := 72) (tgt := 80) dX6_takeNumber_72 (by decide) (fun c22 => ?_) (fun c22 => ?_)
        · rw [if_pos c22] at e
          refine V_pick [0, 2] rfl ?_
          refine V_aload_n (pc := 80) (i := 0) dX6_takeNumber_80 rfl rfl ?_
          refine V_iload_n (pc := 81) (i := 3) dX6_takeNumber_81 rfl rfl ?_
          refine V_putI (pc := 82) (ci := 6) (k := 5) dX6_takeNumber_82 fp_X6_28 rfl (of_decide_eq_true g1) ?_
          refine V_aload_n (pc := 85) (i := 0) dX6_takeNumber_85 rfl rfl ?_
          obtain ⟨r20, h21, g19, e⟩ := ob2_some e
          refine V_callV (pc := 86) (bc := 0) (bs := 0) (mc := 0) (ms := 0) (st := []) (As := []) (a := v0) (h' := h21) (r := none) dX6_takeNumber_86 ml_X6_34 (ci := 6) rfl (kd_sI (of_decide_eq_true g1)) rfl rfl (Nat.le_of_ble_eq_true rfl) (d' := 1) (by decide) (c_X6_lookAtNext (l := x.2.1) v0 (setI h v0 5 w13) g19) ?_
          refine V_iconst (pc := 89) (v := (1 : Int32)) dX6_takeNumber_89 (by decide) ?_
          cases e
          exact V_zret (pc := 90) dX6_takeNumber_90 rfl hF
        · rw [if_neg c22] at e
          exact V_pick [0] rfl (r_X6_takeNumber_b75 v0 h e hF)
    · rw [if_neg c26] at e
      exact V_pick [0] rfl (r_X6_takeNumber_b21 v0 h e hF)
def F_X6_takeNumber (v0 : Nat) (v1 : Int32) (v2 : Int32) (h : Hp) : Option (Int32 × Hp) := F_X6_takeNumber_b0 v0 v1 v2 h
theorem c_X6_takeNumber {l : Launch} (v0 : Nat) (v1 : Int32) (v2 : Int32) (h : Hp) {r : Int32} {hz : Hp} (e : F_X6_takeNumber v0 v1 v2 h = some (r, hz)) : Ct l yX6_takeNumber M_X6_takeNumber (some .boolean) 2 [.ref v0, .int v1, .int v2] h 0 0 (some (.int r)) hz :=
  Ct_of rfl rfl (fun q => by cases q) (Nat.le_of_ble_eq_true rfl) (fun x _ hF => V_pick [0, 1, 2] rfl (r_X6_takeNumber_b0 v0 v1 v2 h e hF))
theorem dX8_init_0 : decode cX8_init 0 = .ok (.aload_n 0, 1) := by decide +kernel
theorem dX8_init_1 : decode cX8_init 1 = .ok (.invokespecial 3, 3) := by decide +kernel
theorem dX8_init_4 : decode cX8_init 4 = .ok (.aload_n 0, 1) := by decide +kernel
theorem dX8_init_5 : decode cX8_init 5 = .ok (.iconst 0, 1) := by decide +kernel
theorem dX8_init_6 : decode cX8_init 6 = .ok (.putfield 9, 3) := by decide +kernel
theorem dX8_init_9 : decode cX8_init 9 = .ok (.aload_n 0, 1) := by decide +kernel
theorem dX8_init_10 : decode cX8_init 10 = .ok (.bipush 6, 2) := by decide +kernel
theorem dX8_init_12 : decode cX8_init 12 = .ok (.newarray .int, 2) := by decide +kernel
theorem dX8_init_14 : decode cX8_init 14 = .ok (.putfield 15, 3) := by decide +kernel
theorem dX8_init_17 : decode cX8_init 17 = .ok (.aload_n 0, 1) := by decide +kernel
theorem dX8_init_18 : decode cX8_init 18 = .ok (.bipush 6, 2) := by decide +kernel
theorem dX8_init_20 : decode cX8_init 20 = .ok (.newarray .int, 2) := by decide +kernel
theorem dX8_init_22 : decode cX8_init 22 = .ok (.putfield 19, 3) := by decide +kernel
theorem dX8_init_25 : decode cX8_init 25 = .ok (.aload_n 0, 1) := by decide +kernel
theorem dX8_init_26 : decode cX8_init 26 = .ok (.bipush 6, 2) := by decide +kernel
theorem dX8_init_28 : decode cX8_init 28 = .ok (.newarray .int, 2) := by decide +kernel
theorem dX8_init_30 : decode cX8_init 30 = .ok (.putfield 22, 3) := by decide +kernel
theorem dX8_init_33 : decode cX8_init 33 = .ok (.return_, 1) := by decide +kernel
set_option maxRecDepth 100000 in
def F_X8_init_b0 (v0 : Nat) (h : Hp) : Option (Unit × Hp × Nat × Nat) :=
  gd (decide (kd h v0 = 7)) <| ob (some (zN (setI h v0 0 (0 : Int32)))) fun q2 => ac 1 ((6 : Int32)).toNatClampNeg <| ob (some (zN (setR (alloc (setI h v0 0 (0 : Int32)) 13 ((6 : Int32)).toNatClampNeg) v0 1 (some q2)))) fun q6 => ac 1 ((6 : Int32)).toNatClampNeg <| ob (some (alloc (setR (alloc (setI h v0 0 (0 : Int32)) 13 ((6 : Int32)).toNatClampNeg) v0 1 (some q2)) 13 ((6 : Int32)).toNatClampNeg)) fun h10 => ob (some (zN (setR h10 v0 2 (some q6)))) fun q15 => ac 1 ((6 : Int32)).toNatClampNeg <| some ((), setR (alloc (setR h10 v0 2 (some q6)) 13 ((6 : Int32)).toNatClampNeg) v0 3 (some q15), 0, 0)
set_option maxHeartbeats 4000000 in
set_option maxRecDepth 100000 in
theorem r_X8_init_b0 (v0 : Nat) (h : Hp) {x : Cx} {r : Unit} {hz : Hp} {c9 s9 : Nat} (e : F_X8_init_b0 v0 h = some (r, hz, c9, s9)) (hF : Fin9 M_X8_init x none none hz) : V M_X8_init x 1 0 [(0, .ref v0)] [] h c9 s9 := by
  unfold F_X8_init_b0 at e
  refine V_aload_n (pc := 0) (i := 0) dX8_init_0 rfl rfl ?_
  refine V_objI (pc := 1) dX8_init_1 wo_X8_3 (by decide) (Nat.le_of_ble_eq_true rfl) ?_
  refine V_aload_n (pc := 4) (i := 0) dX8_init_4 rfl rfl ?_
  refine V_iconst (pc := 5) (v := (0 : Int32)) dX8_init_5 (by decide) ?_
  replace e := gd_some e
  obtain ⟨g1, e⟩ := e
  refine V_putI (pc := 6) (ci := 7) (k := 0) dX8_init_6 fp_X8_9 rfl (of_decide_eq_true g1) ?_
  refine V_aload_n (pc := 9) (i := 0) dX8_init_9 rfl rfl ?_
  refine V_bipush (pc := 10) (v := (6 : Int32)) dX8_init_10 (by decide) ?_
  replace e := ob_some e
  obtain ⟨q2, g3, e⟩ := e
  replace e := ac_some e
  obtain ⟨n4, n5, e, hc9, hs9⟩ := e
  rw [hc9, hs9]
  clear hc9 hs9
  refine V_newIQ (pc := 12) (n := (6 : Int32)) dX8_init_12 wa_int (by decide) (by decide) (q := q2) (bc := n4) (bs := n5) (Option.some.inj g3) ?_
  refine V_putRF (pc := 14) (ci := 7) (k := 1) dX8_init_14 fp_X8_15 rfl (kd_old (kd_sI (of_decide_eq_true g1)) (by decide)) (fun _ => ⟨rfl, rfl⟩) rfl ?_
  refine V_aload_n (pc := 17) (i := 0) dX8_init_17 rfl rfl ?_
  refine V_bipush (pc := 18) (v := (6 : Int32)) dX8_init_18 (by decide) ?_
  replace e := ob_some e
  obtain ⟨q6, g7, e⟩ := e
  replace e := ac_some e
  obtain ⟨n8, n9, e, hc9, hs9⟩ := e
  rw [hc9, hs9]
  clear hc9 hs9
  refine V_newIQ (pc := 20) (n := (6 : Int32)) dX8_init_20 wa_int (by decide) (by decide) (q := q6) (bc := n8) (bs := n9) (Option.some.inj g7) ?_
  replace e := ob_some e
  obtain ⟨h10, g11, e⟩ := e
  refine V_hp (Option.some.inj g11) ?_
  have k12 : kd h10 v0 = 7 := kd_eq (h := (alloc (setR (alloc (setI h v0 0 (0 : Int32)) 13 ((6 : Int32)).toNatClampNeg) v0 1 (some q2)) 13 ((6 : Int32)).toNatClampNeg)) (Option.some.inj g11) (kd_old (kd_sR (kd_old (kd_sI (of_decide_eq_true g1)) (by decide))) (by decide))
  have k13 : kd h10 q2 = 13 := kd_eq (h := (alloc (setR (alloc (setI h v0 0 (0 : Int32)) 13 ((6 : Int32)).toNatClampNeg) v0 1 (some q2)) 13 ((6 : Int32)).toNatClampNeg)) (Option.some.inj g11) (kd_old (kd_sR (kd_newq (Option.some.inj g3))) (by decide))
  have k14 : kd h10 q6 = 13 := kd_eq (h := (alloc (setR (alloc (setI h v0 0 (0 : Int32)) 13 ((6 : Int32)).toNatClampNeg) v0 1 (some q2)) 13 ((6 : Int32)).toNatClampNeg)) (Option.some.inj g11) (kd_newq (Option.some.inj g7))
  refine V_putRF (pc := 22) (ci := 7) (k := 2) dX8_init_22 fp_X8_19 rfl k12 (fun _ => ⟨rfl, rfl⟩) rfl ?_
  refine V_aload_n (pc := 25) (i := 0) dX8_init_25 rfl rfl ?_
  refine V_bipush (pc := 26) (v := (6 : Int32)) dX8_init_26 (by decide) ?_
  replace e := ob_some e
  obtain ⟨q15, g16, e⟩ := e
  replace e := ac_some e
  obtain ⟨n17, n18, e, hc9, hs9⟩ := e
  rw [hc9, hs9]
  clear hc9 hs9
  refine V_newIQ (pc := 28) (n := (6 : Int32)) dX8_init_28 wa_int (by decide) (by decide) (q := q15) (bc := n17) (bs := n18) (Option.some.inj g16) ?_
  refine V_putRF (pc := 30) (ci := 7) (k := 3) dX8_init_30 fp_X8_22 rfl (kd_old (kd_sR k12) (by decide)) (fun _ => ⟨rfl, rfl⟩) rfl ?_
  cases e
  exact V_vret (pc := 33) dX8_init_33 hF
def F_X8_init (v0 : Nat) (h : Hp) : Option (Unit × Hp × Nat × Nat) := F_X8_init_b0 v0 h
theorem c_X8_init {l : Launch} (v0 : Nat) (h : Hp) {r : Unit} {hz : Hp} {c9 s9 : Nat} (e : F_X8_init v0 h = some (r, hz, c9, s9)) : Ct l yX8_init M_X8_init none 1 [.ref v0] h c9 s9 none hz :=
  Ct_of rfl rfl (fun _ => rfl) (Nat.le_of_ble_eq_true rfl) (fun x _ hF => V_pick [0] rfl (r_X8_init_b0 v0 h e hF))
theorem dX8_copyFrom_0 : decode cX8_copyFrom 0 = .ok (.aload_n 0, 1) := by decide +kernel
theorem dX8_copyFrom_1 : decode cX8_copyFrom 1 = .ok (.aload_n 1, 1) := by decide +kernel
theorem dX8_copyFrom_2 : decode cX8_copyFrom 2 = .ok (.getfield 9, 3) := by decide +kernel
theorem dX8_copyFrom_5 : decode cX8_copyFrom 5 = .ok (.putfield 9, 3) := by decide +kernel
theorem dX8_copyFrom_8 : decode cX8_copyFrom 8 = .ok (.aload_n 1, 1) := by decide +kernel
theorem dX8_copyFrom_9 : decode cX8_copyFrom 9 = .ok (.getfield 15, 3) := by decide +kernel
theorem dX8_copyFrom_12 : decode cX8_copyFrom 12 = .ok (.iconst 0, 1) := by decide +kernel
theorem dX8_copyFrom_13 : decode cX8_copyFrom 13 = .ok (.aload_n 0, 1) := by decide +kernel
theorem dX8_copyFrom_14 : decode cX8_copyFrom 14 = .ok (.getfield 15, 3) := by decide +kernel
theorem dX8_copyFrom_17 : decode cX8_copyFrom 17 = .ok (.iconst 0, 1) := by decide +kernel
theorem dX8_copyFrom_18 : decode cX8_copyFrom 18 = .ok (.bipush 6, 2) := by decide +kernel
theorem dX8_copyFrom_20 : decode cX8_copyFrom 20 = .ok (.invokestatic 25, 3) := by decide +kernel
theorem dX8_copyFrom_23 : decode cX8_copyFrom 23 = .ok (.aload_n 1, 1) := by decide +kernel
theorem dX8_copyFrom_24 : decode cX8_copyFrom 24 = .ok (.getfield 19, 3) := by decide +kernel
theorem dX8_copyFrom_27 : decode cX8_copyFrom 27 = .ok (.iconst 0, 1) := by decide +kernel
theorem dX8_copyFrom_28 : decode cX8_copyFrom 28 = .ok (.aload_n 0, 1) := by decide +kernel
theorem dX8_copyFrom_29 : decode cX8_copyFrom 29 = .ok (.getfield 19, 3) := by decide +kernel
theorem dX8_copyFrom_32 : decode cX8_copyFrom 32 = .ok (.iconst 0, 1) := by decide +kernel
theorem dX8_copyFrom_33 : decode cX8_copyFrom 33 = .ok (.bipush 6, 2) := by decide +kernel
theorem dX8_copyFrom_35 : decode cX8_copyFrom 35 = .ok (.invokestatic 25, 3) := by decide +kernel
theorem dX8_copyFrom_38 : decode cX8_copyFrom 38 = .ok (.aload_n 1, 1) := by decide +kernel
theorem dX8_copyFrom_39 : decode cX8_copyFrom 39 = .ok (.getfield 22, 3) := by decide +kernel
theorem dX8_copyFrom_42 : decode cX8_copyFrom 42 = .ok (.iconst 0, 1) := by decide +kernel
theorem dX8_copyFrom_43 : decode cX8_copyFrom 43 = .ok (.aload_n 0, 1) := by decide +kernel
theorem dX8_copyFrom_44 : decode cX8_copyFrom 44 = .ok (.getfield 22, 3) := by decide +kernel
theorem dX8_copyFrom_47 : decode cX8_copyFrom 47 = .ok (.iconst 0, 1) := by decide +kernel
theorem dX8_copyFrom_48 : decode cX8_copyFrom 48 = .ok (.bipush 6, 2) := by decide +kernel
theorem dX8_copyFrom_50 : decode cX8_copyFrom 50 = .ok (.invokestatic 25, 3) := by decide +kernel
theorem dX8_copyFrom_53 : decode cX8_copyFrom 53 = .ok (.return_, 1) := by decide +kernel
set_option maxRecDepth 100000 in
def F_X8_copyFrom_b0 (v0 : Nat) (v1 : Nat) (h : Hp) : Option (Unit × Hp) :=
  gd (decide (kd h v1 = 7)) <| gd (decide (kd h v0 = 7)) <| ob (zR (setI h v0 0 (zI h v1 0)) v1 1) fun q3 => ob (zR (setI h v0 0 (zI h v1 0)) v0 1) fun q5 => gd (decide (kd (setI h v0 0 (zI h v1 0)) q3 = 13)) <| gd (decide (kd (setI h v0 0 (zI h v1 0)) q5 = 13)) <| gd (cpk (0 : Int32) (0 : Int32) (6 : Int32) (zl (setI h v0 0 (zI h v1 0)) q3) (zl (setI h v0 0 (zI h v1 0)) q5)) <| ob (zR (cpA (setI h v0 0 (zI h v1 0)) q3 (0 : Int32) q5 (0 : Int32) (6 : Int32)) v1 2) fun q10 => ob (zR (cpA (setI h v0 0 (zI h v1 0)) q3 (0 : Int32) q5 (0 : Int32) (6 : Int32)) v0 2) fun q12 => gd (decide (kd (cpA (setI h v0 0 (zI h v1 0)) q3 (0 : Int32) q5 (0 : Int32) (6 : Int32)) q10 = 13)) <| gd (decide (kd (cpA (setI h v0 0 (zI h v1 0)) q3 (0 : Int32) q5 (0 : Int32) (6 : Int32)) q12 = 13)) <| gd (cpk (0 : Int32) (0 : Int32) (6 : Int32) (zl (cpA (setI h v0 0 (zI h v1 0)) q3 (0 : Int32) q5 (0 : Int32) (6 : Int32)) q10) (zl (cpA (setI h v0 0 (zI h v1 0)) q3 (0 : Int32) q5 (0 : Int32) (6 : Int32)) q12)) <| ob (some (cpA (cpA (setI h v0 0 (zI h v1 0)) q3 (0 : Int32) q5 (0 : Int32) (6 : Int32)) q10 (0 : Int32) q12 (0 : Int32) (6 : Int32))) fun h17 => ob (zR h17 v1 3) fun q25 => ob (zR h17 v0 3) fun q27 => gd (decide (kd h17 q25 = 13)) <| gd (decide (kd h17 q27 = 13)) <| gd (cpk (0 : Int32) (0 : Int32) (6 : Int32) (zl h17 q25) (zl h17 q27)) <| some ((), cpA h17 q25 (0 : Int32) q27 (0 : Int32) (6 : Int32))
set_option maxHeartbeats 4000000 in
set_option maxRecDepth 100000 in
theorem r_X8_copyFrom_b0 (v0 : Nat) (v1 : Nat) (h : Hp) {x : Cx} {r : Unit} {hz : Hp} (e : F_X8_copyFrom_b0 v0 v1 h = some (r, hz)) (hF : Fin9 M_X8_copyFrom x none none hz) : V M_X8_copyFrom x 1 0 [(0, .ref v0), (1, .ref v1)] [] h 0 0 := by
  unfold F_X8_copyFrom_b0 at e
  refine V_aload_n (pc := 0) (i := 0) dX8_copyFrom_0 rfl rfl ?_
  refine V_aload_n (pc := 1) (i := 1) dX8_copyFrom_1 rfl rfl ?_
  obtain ⟨g1, e⟩ := gd_some e
  refine V_getI (pc := 2) (ci := 7) (k := 0) dX8_copyFrom_2 fl_X8_9 rfl (of_decide_eq_true g1) ?_
  obtain ⟨g2, e⟩ := gd_some e
  refine V_putI (pc := 5) (ci := 7) (k := 0) dX8_copyFrom_5 fp_X8_9 rfl (of_decide_eq_true g2) ?_
  refine V_aload_n (pc := 8) (i := 1) dX8_copyFrom_8 rfl rfl ?_
  obtain ⟨q3, g4, e⟩ := ob_some e
  refine V_getR (pc := 9) (ci := 7) (k := 1) (b := q3) dX8_copyFrom_9 fl_X8_15 rfl (kd_sI (of_decide_eq_true g1)) g4 ?_
  refine V_iconst (pc := 12) (v := (0 : Int32)) dX8_copyFrom_12 (by decide) ?_
  refine V_aload_n (pc := 13) (i := 0) dX8_copyFrom_13 rfl rfl ?_
  obtain ⟨q5, g6, e⟩ := ob_some e
  refine V_getR (pc := 14) (ci := 7) (k := 1) (b := q5) dX8_copyFrom_14 fl_X8_15 rfl (kd_sI (of_decide_eq_true g2)) g6 ?_
  refine V_iconst (pc := 17) (v := (0 : Int32)) dX8_copyFrom_17 (by decide) ?_
  refine V_bipush (pc := 18) (v := (6 : Int32)) dX8_copyFrom_18 (by decide) ?_
  obtain ⟨g7, e⟩ := gd_some e
  obtain ⟨g8, e⟩ := gd_some e
  obtain ⟨g9, e⟩ := gd_some e
  refine V_copy (pc := 20) dX8_copyFrom_20 wm_X8_25 (of_decide_eq_true g7) (of_decide_eq_true g8) g9 (by decide) (Nat.le_of_ble_eq_true rfl) ?_
  refine V_aload_n (pc := 23) (i := 1) dX8_copyFrom_23 rfl rfl ?_
  obtain ⟨q10, g11, e⟩ := ob_some e
  refine V_getR (pc := 24) (ci := 7) (k := 2) (b := q10) dX8_copyFrom_24 fl_X8_19 rfl (kd_sC (kd_sI (of_decide_eq_true g1))) g11 ?_
  refine V_iconst (pc := 27) (v := (0 : Int32)) dX8_copyFrom_27 (by decide) ?_
  refine V_aload_n (pc := 28) (i := 0) dX8_copyFrom_28 rfl rfl ?_
  obtain ⟨q12, g13, e⟩ := ob_some e
  refine V_getR (pc := 29) (ci := 7) (k := 2) (b := q12) dX8_copyFrom_29 fl_X8_19 rfl (kd_sC (kd_sI (of_decide_eq_true g2))) g13 ?_
  refine V_iconst (pc := 32) (v := (0 : Int32)) dX8_copyFrom_32 (by decide) ?_
  refine V_bipush (pc := 33) (v := (6 : Int32)) dX8_copyFrom_33 (by decide) ?_
  obtain ⟨g14, e⟩ := gd_some e
  obtain ⟨g15, e⟩ := gd_some e
  obtain ⟨g16, e⟩ := gd_some e
  refine V_copy (pc := 35) dX8_copyFrom_35 wm_X8_25 (of_decide_eq_true g14) (of_decide_eq_true g15) g16 (by decide) (Nat.le_of_ble_eq_true rfl) ?_
  obtain ⟨h17, g18, e⟩ := ob_some e
  refine V_hp (Option.some.inj g18) ?_
  have k19 : kd h17 v1 = 7 := kd_eq (h := (cpA (cpA (setI h v0 0 (zI h v1 0)) q3 (0 : Int32) q5 (0 : Int32) (6 : Int32)) q10 (0 : Int32) q12 (0 : Int32) (6 : Int32))) (Option.some.inj g18) (kd_sC (kd_sC (kd_sI (of_decide_eq_true g1))))
  have k20 : kd h17 v0 = 7 := kd_eq (h := (cpA (cpA (setI h v0 0 (zI h v1 0)) q3 (0 : Int32) q5 (0 : Int32) (6 : Int32)) q10 (0 : Int32) q12 (0 : Int32) (6 : Int32))) (Option.some.inj g18) (kd_sC (kd_sC (kd_sI (of_decide_eq_true g2))))
  have k21 : kd h17 q3 = 13 := kd_eq (h := (cpA (cpA (setI h v0 0 (zI h v1 0)) q3 (0 : Int32) q5 (0 : Int32) (6 : Int32)) q10 (0 : Int32) q12 (0 : Int32) (6 : Int32))) (Option.some.inj g18) (kd_sC (kd_sC (of_decide_eq_true g7)))
  have k22 : kd h17 q5 = 13 := kd_eq (h := (cpA (cpA (setI h v0 0 (zI h v1 0)) q3 (0 : Int32) q5 (0 : Int32) (6 : Int32)) q10 (0 : Int32) q12 (0 : Int32) (6 : Int32))) (Option.some.inj g18) (kd_sC (kd_sC (of_decide_eq_true g8)))
  have k23 : kd h17 q10 = 13 := kd_eq (h := (cpA (cpA (setI h v0 0 (zI h v1 0)) q3 (0 : Int32) q5 (0 : Int32) (6 : Int32)) q10 (0 : Int32) q12 (0 : Int32) (6 : Int32))) (Option.some.inj g18) (kd_sC (of_decide_eq_true g14))
  have k24 : kd h17 q12 = 13 := kd_eq (h := (cpA (cpA (setI h v0 0 (zI h v1 0)) q3 (0 : Int32) q5 (0 : Int32) (6 : Int32)) q10 (0 : Int32) q12 (0 : Int32) (6 : Int32))) (Option.some.inj g18) (kd_sC (of_decide_eq_true g15))
  refine V_aload_n (pc := 38) (i := 1) dX8_copyFrom_38 rfl rfl ?_
  obtain ⟨q25, g26, e⟩ := ob_some e
  refine V_getR (pc := 39) (ci := 7) (k := 3) (b := q25) dX8_copyFrom_39 fl_X8_22 rfl k19 g26 ?_
  refine V_iconst (pc := 42) (v := (0 : Int32)) dX8_copyFrom_42 (by decide) ?_
  refine V_aload_n (pc := 43) (i := 0) dX8_copyFrom_43 rfl rfl ?_
  obtain ⟨q27, g28, e⟩ := ob_some e
  refine V_getR (pc := 44) (ci := 7) (k := 3) (b := q27) dX8_copyFrom_44 fl_X8_22 rfl k20 g28 ?_
  refine V_iconst (pc := 47) (v := (0 : Int32)) dX8_copyFrom_47 (by decide) ?_
  refine V_bipush (pc := 48) (v := (6 : Int32)) dX8_copyFrom_48 (by decide) ?_
  obtain ⟨g29, e⟩ := gd_some e
  obtain ⟨g30, e⟩ := gd_some e
  obtain ⟨g31, e⟩ := gd_some e
  refine V_copy (pc := 50) dX8_copyFrom_50 wm_X8_25 (of_decide_eq_true g29) (of_decide_eq_true g30) g31 (by decide) (Nat.le_of_ble_eq_true rfl) ?_
  cases e
  exact V_vret (pc := 53) dX8_copyFrom_53 hF
def F_X8_copyFrom (v0 : Nat) (v1 : Nat) (h : Hp) : Option (Unit × Hp) := F_X8_copyFrom_b0 v0 v1 h
theorem c_X8_copyFrom {l : Launch} (v0 : Nat) (v1 : Nat) (h : Hp) {r : Unit} {hz : Hp} (e : F_X8_copyFrom v0 v1 h = some (r, hz)) : Ct l yX8_copyFrom M_X8_copyFrom none 1 [.ref v0, .ref v1] h 0 0 none hz :=
  Ct_of rfl rfl (fun q => by cases q) (Nat.le_of_ble_eq_true rfl) (fun x _ hF => V_pick [0, 1] rfl (r_X8_copyFrom_b0 v0 v1 h e hF))
theorem dX8_add_0 : decode cX8_add 0 = .ok (.aload_n 0, 1) := by decide +kernel
theorem dX8_add_1 : decode cX8_add 1 = .ok (.getfield 9, 3) := by decide +kernel
theorem dX8_add_4 : decode cX8_add 4 = .ok (.bipush 6, 2) := by decide +kernel
theorem dX8_add_6 : decode cX8_add 6 = .ok (.if_icmp .ge 43, 3) := by decide +kernel
theorem dX8_add_9 : decode cX8_add 9 = .ok (.aload_n 0, 1) := by decide +kernel
theorem dX8_add_10 : decode cX8_add 10 = .ok (.getfield 15, 3) := by decide +kernel
theorem dX8_add_13 : decode cX8_add 13 = .ok (.aload_n 0, 1) := by decide +kernel
theorem dX8_add_14 : decode cX8_add 14 = .ok (.getfield 9, 3) := by decide +kernel
theorem dX8_add_17 : decode cX8_add 17 = .ok (.iload_n 1, 1) := by decide +kernel
theorem dX8_add_18 : decode cX8_add 18 = .ok (.iastore, 1) := by decide +kernel
theorem dX8_add_19 : decode cX8_add 19 = .ok (.aload_n 0, 1) := by decide +kernel
theorem dX8_add_20 : decode cX8_add 20 = .ok (.getfield 19, 3) := by decide +kernel
theorem dX8_add_23 : decode cX8_add 23 = .ok (.aload_n 0, 1) := by decide +kernel
theorem dX8_add_24 : decode cX8_add 24 = .ok (.getfield 9, 3) := by decide +kernel
theorem dX8_add_27 : decode cX8_add 27 = .ok (.iload_n 2, 1) := by decide +kernel
theorem dX8_add_28 : decode cX8_add 28 = .ok (.iastore, 1) := by decide +kernel
theorem dX8_add_29 : decode cX8_add 29 = .ok (.aload_n 0, 1) := by decide +kernel
theorem dX8_add_30 : decode cX8_add 30 = .ok (.getfield 22, 3) := by decide +kernel
theorem dX8_add_33 : decode cX8_add 33 = .ok (.aload_n 0, 1) := by decide +kernel
theorem dX8_add_34 : decode cX8_add 34 = .ok (.getfield 9, 3) := by decide +kernel
theorem dX8_add_37 : decode cX8_add 37 = .ok (.iload_n 3, 1) := by decide +kernel
theorem dX8_add_38 : decode cX8_add 38 = .ok (.iastore, 1) := by decide +kernel
theorem dX8_add_39 : decode cX8_add 39 = .ok (.aload_n 0, 1) := by decide +kernel
theorem dX8_add_40 : decode cX8_add 40 = .ok (.dup, 1) := by decide +kernel
theorem dX8_add_41 : decode cX8_add 41 = .ok (.getfield 9, 3) := by decide +kernel
theorem dX8_add_44 : decode cX8_add 44 = .ok (.iconst 1, 1) := by decide +kernel
theorem dX8_add_45 : decode cX8_add 45 = .ok (.iadd, 1) := by decide +kernel
theorem dX8_add_46 : decode cX8_add 46 = .ok (.putfield 9, 3) := by decide +kernel
theorem dX8_add_49 : decode cX8_add 49 = .ok (.return_, 1) := by decide +kernel
set_option maxRecDepth 100000 in
def F_X8_add_b49  (h : Hp) : Option (Unit × Hp) :=
  some ((), h)
set_option maxHeartbeats 4000000 in
set_option maxRecDepth 100000 in
theorem r_X8_add_b49  (h : Hp) {x : Cx} {r : Unit} {hz : Hp} (e : F_X8_add_b49  h = some (r, hz)) (hF : Fin9 M_X8_add x none none hz) : V M_X8_add x 0 49 [] [] h 0 0 := by
  unfold F_X8_add_b49 at e
  cases e
  exact V_vret (pc := 49) dX8_add_49 hF
set_option maxRecDepth 100000 in
def F_X8_add_b0 (v0 : Nat) (v1 : Int32) (v2 : Int32) (v3 : Int32) (h : Hp) : Option (Unit × Hp) :=
  gd (decide (kd h v0 = 7)) <| (if (6 : Int32) ≤ (zI h v0 0) then F_X8_add_b49 h else ob (zR h v0 1) fun q2 => gd (decide (kd h q2 = 13)) <| gd (ix (zI h v0 0) (zl h q2)) <| ob (zR (setI h q2 (zI h v0 0).toNatClampNeg v1) v0 2) fun q6 => gd (decide (kd (setI h q2 (zI h v0 0).toNatClampNeg v1) q6 = 13)) <| gd (ix (zI (setI h q2 (zI h v0 0).toNatClampNeg v1) v0 0) (zl (setI h q2 (zI h v0 0).toNatClampNeg v1) q6)) <| ob (zR (setI (setI h q2 (zI h v0 0).toNatClampNeg v1) q6 (zI (setI h q2 (zI h v0 0).toNatClampNeg v1) v0 0).toNatClampNeg v2) v0 3) fun q10 => gd (decide (kd (setI (setI h q2 (zI h v0 0).toNatClampNeg v1) q6 (zI (setI h q2 (zI h v0 0).toNatClampNeg v1) v0 0).toNatClampNeg v2) q10 = 13)) <| gd (ix (zI (setI (setI h q2 (zI h v0 0).toNatClampNeg v1) q6 (zI (setI h q2 (zI h v0 0).toNatClampNeg v1) v0 0).toNatClampNeg v2) v0 0) (zl (setI (setI h q2 (zI h v0 0).toNatClampNeg v1) q6 (zI (setI h q2 (zI h v0 0).toNatClampNeg v1) v0 0).toNatClampNeg v2) q10)) <| ob (some (setI (setI (setI h q2 (zI h v0 0).toNatClampNeg v1) q6 (zI (setI h q2 (zI h v0 0).toNatClampNeg v1) v0 0).toNatClampNeg v2) q10 (zI (setI (setI h q2 (zI h v0 0).toNatClampNeg v1) q6 (zI (setI h q2 (zI h v0 0).toNatClampNeg v1) v0 0).toNatClampNeg v2) v0 0).toNatClampNeg v3)) fun h14 => F_X8_add_b49 (setI h14 v0 0 ((zI h14 v0 0) + (1 : Int32))))
set_option maxHeartbeats 4000000 in
set_option maxRecDepth 100000 in
theorem r_X8_add_b0 (v0 : Nat) (v1 : Int32) (v2 : Int32) (v3 : Int32) (h : Hp) {x : Cx} {r : Unit} {hz : Hp} (e : F_X8_add_b0 v0 v1 v2 v3 h = some (r, hz)) (hF : Fin9 M_X8_add x none none hz) : V M_X8_add x 0 0 [(0, .ref v0), (1, .int v1), (2, .int v2), (3, .int v3)] [] h 0 0 := by
  unfold F_X8_add_b0 at e
  refine V_aload_n (pc := 0) (i := 0) dX8_add_0 rfl rfl ?_
  obtain ⟨g1, e⟩ := gd_some e
  refine V_getI (pc := 1) (ci := 7) (k := 0) dX8_add_1 fl_X8_9 rfl (of_decide_eq_true g1) ?_
  refine V_bipush (pc := 4) (v := (6 : Int32)) dX8_add_4 (by decide) ?_
  refine V_icmp_ge (pc := 6) (tgt := 49) dX8_add_6 (by decide) (fun c20 => ?_) (fun c20 => ?_)
  · rw [if_pos c20] at e
    exact V_pick [] rfl (r_X8_add_b49 h e hF)
  · rw [if_neg c20] at e
    refine V_pick [0, 1, 2, 3] rfl ?_
    refine V_aload_n (pc := 9) (i := 0) dX8_add_9 rfl rfl ?_
    obtain ⟨q2, g3, e⟩ := ob_some e
    refine V_getR (pc := 10) (ci := 7) (k := 1) (b := q2) dX8_add_10 fl_X8_15 rfl (of_decide_eq_true g1) g3 ?_
    refine V_aload_n (pc := 13) (i := 0) dX8_add_13 rfl rfl ?_
    refine V_getI (pc := 14) (ci := 7) (k := 0) dX8_add_14 fl_X8_9 rfl (of_decide_eq_true g1) ?_
    refine V_iload_n (pc := 17) (i := 1) dX8_add_17 rfl rfl ?_
    obtain ⟨g4, e⟩ := gd_some e
    obtain ⟨g5, e⟩ := gd_some e
    refine V_iast (pc := 18) dX8_add_18 (of_decide_eq_true g4) (ix_in g5) ?_
    refine V_aload_n (pc := 19) (i := 0) dX8_add_19 rfl rfl ?_
    obtain ⟨q6, g7, e⟩ := ob_some e
    refine V_getR (pc := 20) (ci := 7) (k := 2) (b := q6) dX8_add_20 fl_X8_19 rfl (kd_sI (of_decide_eq_true g1)) g7 ?_
    refine V_aload_n (pc := 23) (i := 0) dX8_add_23 rfl rfl ?_
    refine V_getI (pc := 24) (ci := 7) (k := 0) dX8_add_24 fl_X8_9 rfl (kd_sI (of_decide_eq_true g1)) ?_
    refine V_iload_n (pc := 27) (i := 2) dX8_add_27 rfl rfl ?_
    obtain ⟨g8, e⟩ := gd_some e
    obtain ⟨g9, e⟩ := gd_some e
    refine V_iast (pc := 28) dX8_add_28 (of_decide_eq_true g8) (ix_in g9) ?_
    refine V_aload_n (pc := 29) (i := 0) dX8_add_29 rfl rfl ?_
    obtain ⟨q10, g11, e⟩ := ob_some e
    refine V_getR (pc := 30) (ci := 7) (k := 3) (b := q10) dX8_add_30 fl_X8_22 rfl (kd_sI (kd_sI (of_decide_eq_true g1))) g11 ?_
    refine V_aload_n (pc := 33) (i := 0) dX8_add_33 rfl rfl ?_
    refine V_getI (pc := 34) (ci := 7) (k := 0) dX8_add_34 fl_X8_9 rfl (kd_sI (kd_sI (of_decide_eq_true g1))) ?_
    refine V_iload_n (pc := 37) (i := 3) dX8_add_37 rfl rfl ?_
    obtain ⟨g12, e⟩ := gd_some e
    obtain ⟨g13, e⟩ := gd_some e
    refine V_iast (pc := 38) dX8_add_38 (of_decide_eq_true g12) (ix_in g13) ?_
    obtain ⟨h14, g15, e⟩ := ob_some e
    refine V_hp (Option.some.inj g15) ?_
    have k16 : kd h14 v0 = 7 := kd_eq (h := (setI (setI (setI h q2 (zI h v0 0).toNatClampNeg v1) q6 (zI (setI h q2 (zI h v0 0).toNatClampNeg v1) v0 0).toNatClampNeg v2) q10 (zI (setI (setI h q2 (zI h v0 0).toNatClampNeg v1) q6 (zI (setI h q2 (zI h v0 0).toNatClampNeg v1) v0 0).toNatClampNeg v2) v0 0).toNatClampNeg v3)) (Option.some.inj g15) (kd_sI (kd_sI (kd_sI (of_decide_eq_true g1))))
    have k17 : kd h14 q2 = 13 := kd_eq (h := (setI (setI (setI h q2 (zI h v0 0).toNatClampNeg v1) q6 (zI (setI h q2 (zI h v0 0).toNatClampNeg v1) v0 0).toNatClampNeg v2) q10 (zI (setI (setI h q2 (zI h v0 0).toNatClampNeg v1) q6 (zI (setI h q2 (zI h v0 0).toNatClampNeg v1) v0 0).toNatClampNeg v2) v0 0).toNatClampNeg v3)) (Option.some.inj g15) (kd_sI (kd_sI (kd_sI (of_decide_eq_true g4))))
    have k18 : kd h14 q6 = 13 := kd_eq (h := (setI (setI (setI h q2 (zI h v0 0).toNatClampNeg v1) q6 (zI (setI h q2 (zI h v0 0).toNatClampNeg v1) v0 0).toNatClampNeg v2) q10 (zI (setI (setI h q2 (zI h v0 0).toNatClampNeg v1) q6 (zI (setI h q2 (zI h v0 0).toNatClampNeg v1) v0 0).toNatClampNeg v2) v0 0).toNatClampNeg v3)) (Option.some.inj g15) (kd_sI (kd_sI (of_decide_eq_true g8)))
    have k19 : kd h14 q10 = 13 := kd_eq (h := (setI (setI (setI h q2 (zI h v0 0).toNatClampNeg v1) q6 (zI (setI h q2 (zI h v0 0).toNatClampNeg v1) v0 0).toNatClampNeg v2) q10 (zI (setI (setI h q2 (zI h v0 0).toNatClampNeg v1) q6 (zI (setI h q2 (zI h v0 0).toNatClampNeg v1) v0 0).toNatClampNeg v2) v0 0).toNatClampNeg v3)) (Option.some.inj g15) (kd_sI (of_decide_eq_true g12))
    refine V_aload_n (pc := 39) (i := 0) dX8_add_39 rfl rfl ?_
    refine V_dup (pc := 40) dX8_add_40 rfl ?_
    refine V_getI (pc := 41) (ci := 7) (k := 0) dX8_add_41 fl_X8_9 rfl k16 ?_
    refine V_iconst (pc := 44) (v := (1 : Int32)) dX8_add_44 (by decide) ?_
    refine V_iadd (pc := 45) dX8_add_45 ?_
    refine V_putI (pc := 46) (ci := 7) (k := 0) dX8_add_46 fp_X8_9 rfl k16 ?_
    exact V_pick [] rfl (r_X8_add_b49 (setI h14 v0 0 ((zI h14 v0 0) + (1 : Int32))) e hF)
def F_X8_add (v0 : Nat) (v1 : Int32) (v2 : Int32) (v3 : Int32) (h : Hp) : Option (Unit × Hp) := F_X8_add_b0 v0 v1 v2 v3 h
theorem c_X8_add {l : Launch} (v0 : Nat) (v1 : Int32) (v2 : Int32) (v3 : Int32) (h : Hp) {r : Unit} {hz : Hp} (e : F_X8_add v0 v1 v2 v3 h = some (r, hz)) : Ct l yX8_add M_X8_add none 0 [.ref v0, .int v1, .int v2, .int v3] h 0 0 none hz :=
  Ct_of rfl rfl (fun q => by cases q) (Nat.le_of_ble_eq_true rfl) (fun x _ hF => V_pick [0, 1, 2, 3] rfl (r_X8_add_b0 v0 v1 v2 v3 h e hF))
theorem dX8_has_0 : decode cX8_has 0 = .ok (.iload_n 1, 1) := by decide +kernel
theorem dX8_has_1 : decode cX8_has 1 = .ok (.ifCond .lt 15, 3) := by decide +kernel
theorem dX8_has_4 : decode cX8_has 4 = .ok (.iload_n 1, 1) := by decide +kernel
theorem dX8_has_5 : decode cX8_has 5 = .ok (.aload_n 0, 1) := by decide +kernel
theorem dX8_has_6 : decode cX8_has 6 = .ok (.getfield 9, 3) := by decide +kernel
theorem dX8_has_9 : decode cX8_has 9 = .ok (.if_icmp .ge 7, 3) := by decide +kernel
theorem dX8_has_12 : decode cX8_has 12 = .ok (.iconst 1, 1) := by decide +kernel
theorem dX8_has_13 : decode cX8_has 13 = .ok (.goto 4, 3) := by decide +kernel
theorem dX8_has_16 : decode cX8_has 16 = .ok (.iconst 0, 1) := by decide +kernel
theorem dX8_has_17 : decode cX8_has 17 = .ok (.ireturn, 1) := by decide +kernel
set_option maxRecDepth 100000 in
def F_X8_has_b17 (t0 : Int32) (h : Hp) : Option Int32 :=
  gd (decide (t0 = 0 ∨ t0 = 1)) <| some t0
set_option maxHeartbeats 4000000 in
set_option maxRecDepth 100000 in
theorem r_X8_has_b17 (t0 : Int32) (h : Hp) {x : Cx} {r : Int32} (e : F_X8_has_b17 t0 h = some r) (hF : Fin9 M_X8_has x (some .boolean) (some (.int r)) h) : V M_X8_has x 0 17 [] [.int t0] h 0 0 := by
  unfold F_X8_has_b17 at e
  obtain ⟨g1, e⟩ := gd_some e
  cases e
  exact V_zret (pc := 17) dX8_has_17 (z01 (of_decide_eq_true g1)) hF
set_option maxRecDepth 100000 in
def F_X8_has_b16  (h : Hp) : Option Int32 :=
  F_X8_has_b17 (0 : Int32) h
set_option maxHeartbeats 4000000 in
set_option maxRecDepth 100000 in
theorem r_X8_has_b16  (h : Hp) {x : Cx} {r : Int32} (e : F_X8_has_b16  h = some r) (hF : Fin9 M_X8_has x (some .boolean) (some (.int r)) h) : V M_X8_has x 0 16 [] [] h 0 0 := by
  unfold F_X8_has_b16 at e
  refine V_iconst (pc := 16) (v := (0 : Int32)) dX8_has_16 (by decide) ?_
  exact V_pick [] rfl (r_X8_has_b17 (0 : Int32) h e hF)
set_option maxRecDepth 100000 in
def F_X8_has_b0 (v0 : Nat) (v1 : Int32) (h : Hp) : Option Int32 :=
  (if v1 < 0 then F_X8_has_b16 h else gd (decide (kd h v0 = 7)) <| (if (zI h v0 0) ≤ v1 then F_X8_has_b16 h else F_X8_has_b17 (1 : Int32) h))
set_option maxHeartbeats 4000000 in
set_option maxRecDepth 100000 in
theorem r_X8_has_b0 (v0 : Nat) (v1 : Int32) (h : Hp) {x : Cx} {r : Int32} (e : F_X8_has_b0 v0 v1 h = some r) (hF : Fin9 M_X8_has x (some .boolean) (some (.int r)) h) : V M_X8_has x 0 0 [(0, .ref v0), (1, .int v1)] [] h 0 0 := by
  unfold F_X8_has_b0 at e
  refine V_iload_n (pc := 0) (i := 1) dX8_has_0 rfl rfl ?_
  refine V_if_lt (pc := 1) (tgt := 16) dX8_has_1 (by decide) (fun c4 => ?_) (fun c4 => ?_)
  · rw [if_pos c4] at e
    exact V_pick [] rfl (r_X8_has_b16 h e hF)
  · rw [if_neg c4] at e
    refine V_pick [0, 1] rfl ?_
    refine V_iload_n (pc := 4) (i := 1) dX8_has_4 rfl rfl ?_
    refine V_aload_n (pc := 5) (i := 0) dX8_has_5 rfl rfl ?_
    obtain ⟨g2, e⟩ := gd_some e
    refine V_getI (pc := 6) (ci := 7) (k := 0) dX8_has_6 fl_X8_9 rfl (of_decide_eq_true g2) ?_
    refine V_icmp_ge (pc := 9) (tgt := 16) dX8_has_9 (by decide) (fun c3 => ?_) (fun c3 => ?_)
    · rw [if_pos c3] at e
      exact V_pick [] rfl (r_X8_has_b16 h e hF)
    · rw [if_neg c3] at e
      refine V_pick [] rfl ?_
      refine V_iconst (pc := 12) (v := (1 : Int32)) dX8_has_12 (by decide) ?_
      refine V_goto (pc := 13) (tgt := 17) dX8_has_13 (by decide) ?_
      exact V_pick [] rfl (r_X8_has_b17 (1 : Int32) h e hF)
def F_X8_has (v0 : Nat) (v1 : Int32) (h : Hp) : Option Int32 := F_X8_has_b0 v0 v1 h
theorem c_X8_has {l : Launch} (v0 : Nat) (v1 : Int32) (h : Hp) {r : Int32} (e : F_X8_has v0 v1 h = some r) : Ct l yX8_has M_X8_has (some .boolean) 0 [.ref v0, .int v1] h 0 0 (some (.int r)) h :=
  Ct_of rfl rfl (fun q => by cases q) (Nat.le_of_ble_eq_true rfl) (fun x _ hF => V_pick [0, 1] rfl (r_X8_has_b0 v0 v1 h e hF))
theorem dX8_mayWeigh_0 : decode cX8_mayWeigh 0 = .ok (.lload_n 2, 1) := by decide +kernel
theorem dX8_mayWeigh_1 : decode cX8_mayWeigh 1 = .ok (.aload_n 0, 1) := by decide +kernel
theorem dX8_mayWeigh_2 : decode cX8_mayWeigh 2 = .ok (.getfield 15, 3) := by decide +kernel
theorem dX8_mayWeigh_5 : decode cX8_mayWeigh 5 = .ok (.iload_n 1, 1) := by decide +kernel
theorem dX8_mayWeigh_6 : decode cX8_mayWeigh 6 = .ok (.iaload, 1) := by decide +kernel
theorem dX8_mayWeigh_7 : decode cX8_mayWeigh 7 = .ok (.i2l, 1) := by decide +kernel
theorem dX8_mayWeigh_8 : decode cX8_mayWeigh 8 = .ok (.lcmp, 1) := by decide +kernel
theorem dX8_mayWeigh_9 : decode cX8_mayWeigh 9 = .ok (.ifCond .lt 19, 3) := by decide +kernel
theorem dX8_mayWeigh_12 : decode cX8_mayWeigh 12 = .ok (.lload_n 2, 1) := by decide +kernel
theorem dX8_mayWeigh_13 : decode cX8_mayWeigh 13 = .ok (.aload_n 0, 1) := by decide +kernel
theorem dX8_mayWeigh_14 : decode cX8_mayWeigh 14 = .ok (.getfield 19, 3) := by decide +kernel
theorem dX8_mayWeigh_17 : decode cX8_mayWeigh 17 = .ok (.iload_n 1, 1) := by decide +kernel
theorem dX8_mayWeigh_18 : decode cX8_mayWeigh 18 = .ok (.iaload, 1) := by decide +kernel
theorem dX8_mayWeigh_19 : decode cX8_mayWeigh 19 = .ok (.i2l, 1) := by decide +kernel
theorem dX8_mayWeigh_20 : decode cX8_mayWeigh 20 = .ok (.lcmp, 1) := by decide +kernel
theorem dX8_mayWeigh_21 : decode cX8_mayWeigh 21 = .ok (.ifCond .gt 7, 3) := by decide +kernel
theorem dX8_mayWeigh_24 : decode cX8_mayWeigh 24 = .ok (.iconst 1, 1) := by decide +kernel
theorem dX8_mayWeigh_25 : decode cX8_mayWeigh 25 = .ok (.goto 4, 3) := by decide +kernel
theorem dX8_mayWeigh_28 : decode cX8_mayWeigh 28 = .ok (.iconst 0, 1) := by decide +kernel
theorem dX8_mayWeigh_29 : decode cX8_mayWeigh 29 = .ok (.ireturn, 1) := by decide +kernel
set_option maxRecDepth 100000 in
def F_X8_mayWeigh_b29 (t0 : Int32) (h : Hp) : Option Int32 :=
  gd (decide (t0 = 0 ∨ t0 = 1)) <| some t0
set_option maxHeartbeats 4000000 in
set_option maxRecDepth 100000 in
theorem r_X8_mayWeigh_b29 (t0 : Int32) (h : Hp) {x : Cx} {r : Int32} (e : F_X8_mayWeigh_b29 t0 h = some r) (hF : Fin9 M_X8_mayWeigh x (some .boolean) (some (.int r)) h) : V M_X8_mayWeigh x 0 29 [] [.int t0] h 0 0 := by
  unfold F_X8_mayWeigh_b29 at e
  obtain ⟨g6, e⟩ := gd_some e
  cases e
  exact V_zret (pc := 29) dX8_mayWeigh_29 (z01 (of_decide_eq_true g6)) hF
set_option maxRecDepth 100000 in
def F_X8_mayWeigh_b28  (h : Hp) : Option Int32 :=
  F_X8_mayWeigh_b29 (0 : Int32) h
set_option maxHeartbeats 4000000 in
set_option maxRecDepth 100000 in
theorem r_X8_mayWeigh_b28  (h : Hp) {x : Cx} {r : Int32} (e : F_X8_mayWeigh_b28  h = some r) (hF : Fin9 M_X8_mayWeigh x (some .boolean) (some (.int r)) h) : V M_X8_mayWeigh x 0 28 [] [] h 0 0 := by
  unfold F_X8_mayWeigh_b28 at e
  refine V_iconst (pc := 28) (v := (0 : Int32)) dX8_mayWeigh_28 (by decide) ?_
  exact V_pick [] rfl (r_X8_mayWeigh_b29 (0 : Int32) h e hF)
set_option maxRecDepth 100000 in
def F_X8_mayWeigh_b0 (v0 : Nat) (v1 : Int32) (v2 : Int64) (h : Hp) : Option Int32 :=
  gd (decide (kd h v0 = 7)) <| ob (zR h v0 1) fun q2 => gd (decide (kd h q2 = 13)) <| gd (ix v1 (zl h q2)) <| (if (lg_cmp v2 ((zI h q2 (v1).toNatClampNeg).toInt64)) < 0 then F_X8_mayWeigh_b28 h else ob (zR h v0 2) fun q7 => gd (decide (kd h q7 = 13)) <| gd (ix v1 (zl h q7)) <| (if 0 < (lg_cmp v2 ((zI h q7 (v1).toNatClampNeg).toInt64)) then F_X8_mayWeigh_b28 h else F_X8_mayWeigh_b29 (1 : Int32) h))
set_option maxHeartbeats 4000000 in
set_option maxRecDepth 100000 in
theorem r_X8_mayWeigh_b0 (v0 : Nat) (v1 : Int32) (v2 : Int64) (h : Hp) {x : Cx} {r : Int32} (e : F_X8_mayWeigh_b0 v0 v1 v2 h = some r) (hF : Fin9 M_X8_mayWeigh x (some .boolean) (some (.int r)) h) : V M_X8_mayWeigh x 0 0 [(0, .ref v0), (1, .int v1), (2, .long v2)] [] h 0 0 := by
  unfold F_X8_mayWeigh_b0 at e
  refine V_lload_n (pc := 0) (i := 2) dX8_mayWeigh_0 rfl rfl ?_
  refine V_aload_n (pc := 1) (i := 0) dX8_mayWeigh_1 rfl rfl ?_
  obtain ⟨g1, e⟩ := gd_some e
  obtain ⟨q2, g3, e⟩ := ob_some e
  refine V_getR (pc := 2) (ci := 7) (k := 1) (b := q2) dX8_mayWeigh_2 fl_X8_15 rfl (of_decide_eq_true g1) g3 ?_
  refine V_iload_n (pc := 5) (i := 1) dX8_mayWeigh_5 rfl rfl ?_
  obtain ⟨g4, e⟩ := gd_some e
  obtain ⟨g5, e⟩ := gd_some e
  refine V_iald (pc := 6) dX8_mayWeigh_6 (of_decide_eq_true g4) (ix_in g5) ?_
  refine V_i2l (pc := 7) dX8_mayWeigh_7 ?_
  refine V_lcmp (pc := 8) dX8_mayWeigh_8 ?_
  refine V_if_lt (pc := 9) (tgt := 28) dX8_mayWeigh_9 (by decide) (fun c12 => ?_) (fun c12 => ?_)
  · rw [if_pos c12] at e
    exact V_pick [] rfl (r_X8_mayWeigh_b28 h e hF)
  · rw [if_neg c12] at e
    refine V_pick [0, 1, 2] rfl ?_
    refine V_lload_n (pc := 12) (i := 2) dX8_mayWeigh_12 rfl rfl ?_
    refine V_aload_n (pc := 13) (i := 0) dX8_mayWeigh_13 rfl rfl ?_
    obtain ⟨q7, g8, e⟩ := ob_some e
    refine V_getR (pc := 14) (ci := 7) (k := 2) (b := q7) dX8_mayWeigh_14 fl_X8_19 rfl (of_decide_eq_true g1) g8 ?_
    refine V_iload_n (pc := 17) (i := 1) dX8_mayWeigh_17 rfl rfl ?_
    obtain ⟨g9, e⟩ := gd_some e
    obtain ⟨g10, e⟩ := gd_some e
    refine V_iald (pc := 18) dX8_mayWeigh_18 (of_decide_eq_true g9) (ix_in g10) ?_
    refine V_i2l (pc := 19) dX8_mayWeigh_19 ?_
    refine V_lcmp (pc := 20) dX8_mayWeigh_20 ?_
    refine V_if_gt (pc := 21) (tgt := 28) dX8_mayWeigh_21 (by decide) (fun c11 => ?_) (fun c11 => ?_)
    · rw [if_pos c11] at e
      exact V_pick [] rfl (r_X8_mayWeigh_b28 h e hF)
    · rw [if_neg c11] at e
      refine V_pick [] rfl ?_
      refine V_iconst (pc := 24) (v := (1 : Int32)) dX8_mayWeigh_24 (by decide) ?_
      refine V_goto (pc := 25) (tgt := 29) dX8_mayWeigh_25 (by decide) ?_
      exact V_pick [] rfl (r_X8_mayWeigh_b29 (1 : Int32) h e hF)
def F_X8_mayWeigh (v0 : Nat) (v1 : Int32) (v2 : Int64) (h : Hp) : Option Int32 := F_X8_mayWeigh_b0 v0 v1 v2 h
theorem c_X8_mayWeigh {l : Launch} (v0 : Nat) (v1 : Int32) (v2 : Int64) (h : Hp) {r : Int32} (e : F_X8_mayWeigh v0 v1 v2 h = some r) : Ct l yX8_mayWeigh M_X8_mayWeigh (some .boolean) 0 [.ref v0, .int v1, .long v2] h 0 0 (some (.int r)) h :=
  Ct_of rfl rfl (fun q => by cases q) (Nat.le_of_ble_eq_true rfl) (fun x _ hF => V_pick [0, 1, 2] rfl (r_X8_mayWeigh_b0 v0 v1 v2 h e hF))
theorem dX8_lyingIn_0 : decode cX8_lyingIn 0 = .ok (.iconst 0, 1) := by decide +kernel
theorem dX8_lyingIn_1 : decode cX8_lyingIn 1 = .ok (.istore_n 2, 1) := by decide +kernel
theorem dX8_lyingIn_2 : decode cX8_lyingIn 2 = .ok (.iconst 0, 1) := by decide +kernel
theorem dX8_lyingIn_3 : decode cX8_lyingIn 3 = .ok (.istore_n 3, 1) := by decide +kernel
theorem dX8_lyingIn_4 : decode cX8_lyingIn 4 = .ok (.iload_n 3, 1) := by decide +kernel
theorem dX8_lyingIn_5 : decode cX8_lyingIn 5 = .ok (.aload_n 0, 1) := by decide +kernel
theorem dX8_lyingIn_6 : decode cX8_lyingIn 6 = .ok (.getfield 9, 3) := by decide +kernel
theorem dX8_lyingIn_9 : decode cX8_lyingIn 9 = .ok (.if_icmp .ge 22, 3) := by decide +kernel
theorem dX8_lyingIn_12 : decode cX8_lyingIn 12 = .ok (.aload_n 0, 1) := by decide +kernel
theorem dX8_lyingIn_13 : decode cX8_lyingIn 13 = .ok (.getfield 22, 3) := by decide +kernel
theorem dX8_lyingIn_16 : decode cX8_lyingIn 16 = .ok (.iload_n 3, 1) := by decide +kernel
theorem dX8_lyingIn_17 : decode cX8_lyingIn 17 = .ok (.iaload, 1) := by decide +kernel
theorem dX8_lyingIn_18 : decode cX8_lyingIn 18 = .ok (.iload_n 1, 1) := by decide +kernel
theorem dX8_lyingIn_19 : decode cX8_lyingIn 19 = .ok (.if_icmp .ne 6, 3) := by decide +kernel
theorem dX8_lyingIn_22 : decode cX8_lyingIn 22 = .ok (.iinc 2 1, 3) := by decide +kernel
theorem dX8_lyingIn_25 : decode cX8_lyingIn 25 = .ok (.iinc 3 1, 3) := by decide +kernel
theorem dX8_lyingIn_28 : decode cX8_lyingIn 28 = .ok (.goto (-24), 3) := by decide +kernel
theorem dX8_lyingIn_31 : decode cX8_lyingIn 31 = .ok (.iload_n 2, 1) := by decide +kernel
theorem dX8_lyingIn_32 : decode cX8_lyingIn 32 = .ok (.ireturn, 1) := by decide +kernel
set_option maxRecDepth 100000 in
def F_X8_lyingIn_b25 (v0 : Nat) (v1 : Int32) (v2 : Int32) (v3 : Int32) (h : Hp) : Option ((Int32 × Int32) ⊕ Int32) :=
  some (.inl (v2, v3 + (1 : Int32)))
set_option maxHeartbeats 4000000 in
set_option maxRecDepth 100000 in
theorem r_X8_lyingIn_b25 (v0 : Nat) (v1 : Int32) (v2 : Int32) (v3 : Int32) (h : Hp) {x : Cx} {o : ((Int32 × Int32) ⊕ Int32)} (e : F_X8_lyingIn_b25 v0 v1 v2 v3 h = some o) (kI : ∀ z, o = .inl z → V M_X8_lyingIn x 0 4 [(0, .ref v0), (1, .int v1), (2, .int z.1), (3, .int z.2)] [] h 0 0) (kE31 : ∀ z : Int32, o = .inr z → V M_X8_lyingIn x 0 31 [(2, .int z)] [] h 0 0) : V M_X8_lyingIn x 0 25 [(0, .ref v0), (1, .int v1), (2, .int v2), (3, .int v3)] [] h 0 0 := by
  unfold F_X8_lyingIn_b25 at e
  refine V_iinc (pc := 25) (i := 3) (u := v3 + (1 : Int32)) (lv' := [(3, .int (v3 + (1 : Int32))), (0, .ref v0), (1, .int v1), (2, .int v2)]) dX8_lyingIn_25 rfl rfl (by decide) rfl ?_
  refine V_goto (pc := 28) (tgt := 4) dX8_lyingIn_28 (by decide) ?_
  cases e
  exact V_pick [1, 2, 3, 0] rfl (kI (v2, v3 + (1 : Int32)) rfl)
set_option maxRecDepth 100000 in
def F_X8_lyingIn_l4 (v0 : Nat) (v1 : Int32) (v2 : Int32) (v3 : Int32) (h : Hp) : Option ((Int32 × Int32) ⊕ Int32) :=
  gd (decide (kd h v0 = 7)) <| (if (zI h v0 0) ≤ v3 then some (.inr v2) else ob (zR h v0 3) fun q2 => gd (decide (kd h q2 = 13)) <| gd (ix v3 (zl h q2)) <| (if (zI h q2 (v3).toNatClampNeg) = v1 then F_X8_lyingIn_b25 v0 v1 (v2 + (1 : Int32)) v3 h else F_X8_lyingIn_b25 v0 v1 v2 v3 h))
set_option maxHeartbeats 4000000 in
set_option maxRecDepth 100000 in
theorem r_X8_lyingIn_l4 (v0 : Nat) (v1 : Int32) (v2 : Int32) (v3 : Int32) (h : Hp) {x : Cx} {o : ((Int32 × Int32) ⊕ Int32)} (e : F_X8_lyingIn_l4 v0 v1 v2 v3 h = some o) (kI : ∀ z, o = .inl z → V M_X8_lyingIn x 0 4 [(0, .ref v0), (1, .int v1), (2, .int z.1), (3, .int z.2)] [] h 0 0) (kE31 : ∀ z : Int32, o = .inr z → V M_X8_lyingIn x 0 31 [(2, .int z)] [] h 0 0) : V M_X8_lyingIn x 0 4 [(0, .ref v0), (1, .int v1), (2, .int v2), (3, .int v3)] [] h 0 0 := by
  unfold F_X8_lyingIn_l4 at e
  refine V_iload_n (pc := 4) (i := 3) dX8_lyingIn_4 rfl rfl ?_
  refine V_aload_n (pc := 5) (i := 0) dX8_lyingIn_5 rfl rfl ?_
  obtain ⟨g1, e⟩ := gd_some e
  refine V_getI (pc := 6) (ci := 7) (k := 0) dX8_lyingIn_6 fl_X8_9 rfl (of_decide_eq_true g1) ?_
  refine V_icmp_ge (pc := 9) (tgt := 31) dX8_lyingIn_9 (by decide) (fun c7 => ?_) (fun c7 => ?_)
  · rw [if_pos c7] at e
    cases e
    exact V_pick [2] rfl (kE31 v2 rfl)
  · rw [if_neg c7] at e
    refine V_pick [0, 1, 2, 3] rfl ?_
    refine V_aload_n (pc := 12) (i := 0) dX8_lyingIn_12 rfl rfl ?_
    obtain ⟨q2, g3, e⟩ := ob_some e
    refine V_getR (pc := 13) (ci := 7) (k := 3) (b := q2) dX8_lyingIn_13 fl_X8_22 rfl (of_decide_eq_true g1) g3 ?_
    refine V_iload_n (pc := 16) (i := 3) dX8_lyingIn_16 rfl rfl ?_
    obtain ⟨g4, e⟩ := gd_some e
    obtain ⟨g5, e⟩ := gd_some e
    refine V_iald (pc := 17) dX8_lyingIn_17 (of_decide_eq_true g4) (ix_in g5) ?_
    refine V_iload_n (pc := 18) (i := 1) dX8_lyingIn_18 rfl rfl ?_
    refine V_icmp_ne (pc := 19) (tgt := 25) dX8_lyingIn_19 (by decide) (fun c6 => ?_) (fun c6 => ?_)
    · rw [if_neg c6] at e
      exact V_pick [0, 1, 2, 3] rfl (r_X8_lyingIn_b25 v0 v1 v2 v3 h e kI kE31)
    · rw [if_pos c6] at e
      refine V_pick [0, 1, 2, 3] rfl ?_
      refine V_iinc (pc := 22) (i := 2) (u := v2 + (1 : Int32)) (lv' := [(2, .int (v2 + (1 : Int32))), (0, .ref v0), (1, .int v1), (3, .int v3)]) dX8_lyingIn_22 rfl rfl (by decide) rfl ?_
      exact V_pick [1, 2, 0, 3] rfl (r_X8_lyingIn_b25 v0 v1 (v2 + (1 : Int32)) v3 h e kI kE31)
set_option maxRecDepth 100000 in
def F_X8_lyingIn_b0 (v0 : Nat) (v1 : Int32) (h : Hp) : Option Int32 :=
  ob (iter (fun z : Int32 × Int32 => F_X8_lyingIn_l4 v0 v1 z.1 z.2 h) FU ((0 : Int32), (0 : Int32))) (fun w8 => some w8)
set_option maxHeartbeats 4000000 in
set_option maxRecDepth 100000 in
theorem r_X8_lyingIn_b0 (v0 : Nat) (v1 : Int32) (h : Hp) {x : Cx} {r : Int32} (e : F_X8_lyingIn_b0 v0 v1 h = some r) (hF : Fin9 M_X8_lyingIn x (some .int) (some (.int r)) h) : V M_X8_lyingIn x 0 0 [(0, .ref v0), (1, .int v1)] [] h 0 0 := by
  unfold F_X8_lyingIn_b0 at e
  refine V_iconst (pc := 0) (v := (0 : Int32)) dX8_lyingIn_0 (by decide) ?_
  refine V_istore_n (pc := 1) (i := 2) (lv' := [(2, .int (0 : Int32)), (0, .ref v0), (1, .int v1)]) dX8_lyingIn_1 rfl (by decide) rfl ?_
  refine V_iconst (pc := 2) (v := (0 : Int32)) dX8_lyingIn_2 (by decide) ?_
  refine V_istore_n (pc := 3) (i := 3) (lv' := [(3, .int (0 : Int32)), (2, .int (0 : Int32)), (0, .ref v0), (1, .int v1)]) dX8_lyingIn_3 rfl (by decide) rfl ?_
  refine V_pick [2, 3, 1, 0] rfl ?_
  obtain ⟨y9, g10, e⟩ := ob_some e
  refine iter_V (P := fun z : Int32 × Int32 => V M_X8_lyingIn x 0 4 [(0, .ref v0), (1, .int v1), (2, .int z.1), (3, .int z.2)] [] h 0 0) (E := fun z : Int32 => V M_X8_lyingIn x 0 31 [(2, .int z)] [] h 0 0) (fun z o e9 k1 k2 => r_X8_lyingIn_l4 v0 v1 z.1 z.2 h e9 (fun z hz9 => k1 z hz9) (fun z hz9 => k2 _ hz9)) _ _ _ g10 ?_
  clear g10
  obtain ⟨w8, rfl⟩ : ∃ q, q = y9 := ⟨_, rfl⟩
  replace e : (some w8) = some r := e
  show V M_X8_lyingIn x 0 31 [(2, .int w8)] [] h 0 0
  refine V_iload_n (pc := 31) (i := 2) dX8_lyingIn_31 rfl rfl ?_
  cases e
  exact V_iret (pc := 32) dX8_lyingIn_32 hF
def F_X8_lyingIn (v0 : Nat) (v1 : Int32) (h : Hp) : Option Int32 := F_X8_lyingIn_b0 v0 v1 h
theorem c_X8_lyingIn {l : Launch} (v0 : Nat) (v1 : Int32) (h : Hp) {r : Int32} (e : F_X8_lyingIn v0 v1 h = some r) : Ct l yX8_lyingIn M_X8_lyingIn (some .int) 0 [.ref v0, .int v1] h 0 0 (some (.int r)) h :=
  Ct_of rfl rfl (fun q => by cases q) (Nat.le_of_ble_eq_true rfl) (fun x _ hF => V_pick [0, 1] rfl (r_X8_lyingIn_b0 v0 v1 h e hF))
theorem dX8_lowest_0 : decode cX8_lowest 0 = .ok (.iconst 0, 1) := by decide +kernel
theorem dX8_lowest_1 : decode cX8_lowest 1 = .ok (.istore_n 2, 1) := by decide +kernel
theorem dX8_lowest_2 : decode cX8_lowest 2 = .ok (.iconst 0, 1) := by decide +kernel
theorem dX8_lowest_3 : decode cX8_lowest 3 = .ok (.istore_n 3, 1) := by decide +kernel
theorem dX8_lowest_4 : decode cX8_lowest 4 = .ok (.iload_n 3, 1) := by decide +kernel
theorem dX8_lowest_5 : decode cX8_lowest 5 = .ok (.aload_n 0, 1) := by decide +kernel
theorem dX8_lowest_6 : decode cX8_lowest 6 = .ok (.getfield 9, 3) := by decide +kernel
theorem dX8_lowest_9 : decode cX8_lowest 9 = .ok (.if_icmp .ge 45, 3) := by decide +kernel
theorem dX8_lowest_12 : decode cX8_lowest 12 = .ok (.aload_n 1, 1) := by decide +kernel
theorem dX8_lowest_13 : decode cX8_lowest 13 = .ok (.aload_n 0, 1) := by decide +kernel
theorem dX8_lowest_14 : decode cX8_lowest 14 = .ok (.getfield 22, 3) := by decide +kernel
theorem dX8_lowest_17 : decode cX8_lowest 17 = .ok (.iload_n 3, 1) := by decide +kernel
theorem dX8_lowest_18 : decode cX8_lowest 18 = .ok (.iaload, 1) := by decide +kernel
theorem dX8_lowest_19 : decode cX8_lowest 19 = .ok (.iaload, 1) := by decide +kernel
theorem dX8_lowest_20 : decode cX8_lowest 20 = .ok (.istore 4, 2) := by decide +kernel
theorem dX8_lowest_22 : decode cX8_lowest 22 = .ok (.iload_n 2, 1) := by decide +kernel
theorem dX8_lowest_23 : decode cX8_lowest 23 = .ok (.iload 4, 2) := by decide +kernel
theorem dX8_lowest_25 : decode cX8_lowest 25 = .ok (.iload 4, 2) := by decide +kernel
theorem dX8_lowest_27 : decode cX8_lowest 27 = .ok (.ifCond .ge 12, 3) := by decide +kernel
theorem dX8_lowest_30 : decode cX8_lowest 30 = .ok (.aload_n 0, 1) := by decide +kernel
theorem dX8_lowest_31 : decode cX8_lowest 31 = .ok (.getfield 19, 3) := by decide +kernel
theorem dX8_lowest_34 : decode cX8_lowest 34 = .ok (.iload_n 3, 1) := by decide +kernel
theorem dX8_lowest_35 : decode cX8_lowest 35 = .ok (.iaload, 1) := by decide +kernel
theorem dX8_lowest_36 : decode cX8_lowest 36 = .ok (.goto 9, 3) := by decide +kernel
theorem dX8_lowest_39 : decode cX8_lowest 39 = .ok (.aload_n 0, 1) := by decide +kernel
theorem dX8_lowest_40 : decode cX8_lowest 40 = .ok (.getfield 15, 3) := by decide +kernel
theorem dX8_lowest_43 : decode cX8_lowest 43 = .ok (.iload_n 3, 1) := by decide +kernel
theorem dX8_lowest_44 : decode cX8_lowest 44 = .ok (.iaload, 1) := by decide +kernel
theorem dX8_lowest_45 : decode cX8_lowest 45 = .ok (.imul, 1) := by decide +kernel
theorem dX8_lowest_46 : decode cX8_lowest 46 = .ok (.iadd, 1) := by decide +kernel
theorem dX8_lowest_47 : decode cX8_lowest 47 = .ok (.istore_n 2, 1) := by decide +kernel
theorem dX8_lowest_48 : decode cX8_lowest 48 = .ok (.iinc 3 1, 3) := by decide +kernel
theorem dX8_lowest_51 : decode cX8_lowest 51 = .ok (.goto (-47), 3) := by decide +kernel
theorem dX8_lowest_54 : decode cX8_lowest 54 = .ok (.iload_n 2, 1) := by decide +kernel
theorem dX8_lowest_55 : decode cX8_lowest 55 = .ok (.ireturn, 1) := by decide +kernel
set_option maxRecDepth 100000 in
def F_X8_lowest_b45 (v0 : Nat) (v1 : Nat) (v3 : Int32) (t0 : Int32) (t1 : Int32) (t2 : Int32) (h : Hp) : Option ((Int32 × Int32) ⊕ Int32) :=
  some (.inl (t0 + (t1 * t2), v3 + (1 : Int32)))
set_option maxHeartbeats 4000000 in
set_option maxRecDepth 100000 in
theorem r_X8_lowest_b45 (v0 : Nat) (v1 : Nat) (v3 : Int32) (t0 : Int32) (t1 : Int32) (t2 : Int32) (h : Hp) {x : Cx} {o : ((Int32 × Int32) ⊕ Int32)} (e : F_X8_lowest_b45 v0 v1 v3 t0 t1 t2 h = some o) (kI : ∀ z, o = .inl z → V M_X8_lowest x 0 4 [(0, .ref v0), (1, .ref v1), (2, .int z.1), (3, .int z.2)] [] h 0 0) (kE54 : ∀ z : Int32, o = .inr z → V M_X8_lowest x 0 54 [(2, .int z)] [] h 0 0) : V M_X8_lowest x 0 45 [(0, .ref v0), (1, .ref v1), (3, .int v3)] [.int t2, .int t1, .int t0] h 0 0 := by
  unfold F_X8_lowest_b45 at e
  refine V_imul (pc := 45) dX8_lowest_45 ?_
  refine V_iadd (pc := 46) dX8_lowest_46 ?_
  refine V_istore_n (pc := 47) (i := 2) (lv' := [(2, .int (t0 + (t1 * t2))), (0, .ref v0), (1, .ref v1), (3, .int v3)]) dX8_lowest_47 rfl (by decide) rfl ?_
  refine V_iinc (pc := 48) (i := 3) (u := v3 + (1 : Int32)) (lv' := [(3, .int (v3 + (1 : Int32))), (2, .int (t0 + (t1 * t2))), (0, .ref v0), (1, .ref v1)]) dX8_lowest_48 rfl rfl (by decide) rfl ?_
  refine V_goto (pc := 51) (tgt := 4) dX8_lowest_51 (by decide) ?_
  cases e
  exact V_pick [2, 3, 1, 0] rfl (kI (t0 + (t1 * t2), v3 + (1 : Int32)) rfl)
set_option maxRecDepth 100000 in
def F_X8_lowest_l4 (v0 : Nat) (v1 : Nat) (v2 : Int32) (v3 : Int32) (h : Hp) : Option ((Int32 × Int32) ⊕ Int32) :=
  gd (decide (kd h v0 = 7)) <| (if (zI h v0 0) ≤ v3 then some (.inr v2) else ob (zR h v0 3) fun q2 => gd (decide (kd h q2 = 13)) <| gd (ix v3 (zl h q2)) <| gd (decide (kd h v1 = 13)) <| gd (ix (zI h q2 (v3).toNatClampNeg) (zl h v1)) <| (if 0 ≤ (zI h v1 (zI h q2 (v3).toNatClampNeg).toNatClampNeg) then ob (zR h v0 1) fun q8 => gd (decide (kd h q8 = 13)) <| gd (ix v3 (zl h q8)) <| F_X8_lowest_b45 v0 v1 v3 v2 (zI h v1 (zI h q2 (v3).toNatClampNeg).toNatClampNeg) (zI h q8 (v3).toNatClampNeg) h else ob (zR h v0 2) fun q12 => gd (decide (kd h q12 = 13)) <| gd (ix v3 (zl h q12)) <| F_X8_lowest_b45 v0 v1 v3 v2 (zI h v1 (zI h q2 (v3).toNatClampNeg).toNatClampNeg) (zI h q12 (v3).toNatClampNeg) h))
set_option maxHeartbeats 4000000 in
set_option maxRecDepth 100000 in
theorem r_X8_lowest_l4 (v0 : Nat) (v1 : Nat) (v2 : Int32) (v3 : Int32) (h : Hp) {x : Cx} {o : ((Int32 × Int32) ⊕ Int32)} (e : F_X8_lowest_l4 v0 v1 v2 v3 h = some o) (kI : ∀ z, o = .inl z → V M_X8_lowest x 0 4 [(0, .ref v0), (1, .ref v1), (2, .int z.1), (3, .int z.2)] [] h 0 0) (kE54 : ∀ z : Int32, o = .inr z → V M_X8_lowest x 0 54 [(2, .int z)] [] h 0 0) : V M_X8_lowest x 0 4 [(0, .ref v0), (1, .ref v1), (2, .int v2), (3, .int v3)] [] h 0 0 := by
  unfold F_X8_lowest_l4 at e
  refine V_iload_n (pc := 4) (i := 3) dX8_lowest_4 rfl rfl ?_
  refine V_aload_n (pc := 5) (i := 0) dX8_lowest_5 rfl rfl ?_
  obtain ⟨g1, e⟩ := gd_some e
  refine V_getI (pc := 6) (ci := 7) (k := 0) dX8_lowest_6 fl_X8_9 rfl (of_decide_eq_true g1) ?_
  refine V_icmp_ge (pc := 9) (tgt := 54) dX8_lowest_9 (by decide) (fun c17 => ?_) (fun c17 => ?_)
  · rw [if_pos c17] at e
    cases e
    exact V_pick [2] rfl (kE54 v2 rfl)
  · rw [if_neg c17] at e
    refine V_pick [0, 1, 2, 3] rfl ?_
    refine V_aload_n (pc := 12) (i := 1) dX8_lowest_12 rfl rfl ?_
    refine V_aload_n (pc := 13) (i := 0) dX8_lowest_13 rfl rfl ?_
    obtain ⟨q2, g3, e⟩ := ob_some e
    refine V_getR (pc := 14) (ci := 7) (k := 3) (b := q2) dX8_lowest_14 fl_X8_22 rfl (of_decide_eq_true g1) g3 ?_
    refine V_iload_n (pc := 17) (i := 3) dX8_lowest_17 rfl rfl ?_
    obtain ⟨g4, e⟩ := gd_some e
    obtain ⟨g5, e⟩ := gd_some e
    refine V_iald (pc := 18) dX8_lowest_18 (of_decide_eq_true g4) (ix_in g5) ?_
    obtain ⟨g6, e⟩ := gd_some e
    obtain ⟨g7, e⟩ := gd_some e
    refine V_iald (pc := 19) dX8_lowest_19 (of_decide_eq_true g6) (ix_in g7) ?_
    refine V_istore (pc := 20) (i := 4) (lv' := [(4, .int (zI h v1 (zI h q2 (v3).toNatClampNeg).toNatClampNeg)), (0, .ref v0), (1, .ref v1), (2, .int v2), (3, .int v3)]) dX8_lowest_20 (by decide) rfl ?_
    refine V_iload_n (pc := 22) (i := 2) dX8_lowest_22 rfl rfl ?_
    refine V_iload (pc := 23) (i := 4) dX8_lowest_23 rfl ?_
    refine V_iload (pc := 25) (i := 4) dX8_lowest_25 rfl ?_
    refine V_if_ge (pc := 27) (tgt := 39) dX8_lowest_27 (by decide) (fun c16 => ?_) (fun c16 => ?_)
    · rw [if_pos c16] at e
      refine V_pick [1, 2, 4] rfl ?_
      refine V_aload_n (pc := 39) (i := 0) dX8_lowest_39 rfl rfl ?_
      obtain ⟨q8, g9, e⟩ := ob_some e
      refine V_getR (pc := 40) (ci := 7) (k := 1) (b := q8) dX8_lowest_40 fl_X8_15 rfl (of_decide_eq_true g1) g9 ?_
      refine V_iload_n (pc := 43) (i := 3) dX8_lowest_43 rfl rfl ?_
      obtain ⟨g10, e⟩ := gd_some e
      obtain ⟨g11, e⟩ := gd_some e
      refine V_iald (pc := 44) dX8_lowest_44 (of_decide_eq_true g10) (ix_in g11) ?_
      exact V_pick [0, 1, 2] rfl (r_X8_lowest_b45 v0 v1 v3 v2 (zI h v1 (zI h q2 (v3).toNatClampNeg).toNatClampNeg) (zI h q8 (v3).toNatClampNeg) h e kI kE54)
    · rw [if_neg c16] at e
      refine V_pick [1, 2, 4] rfl ?_
      refine V_aload_n (pc := 30) (i := 0) dX8_lowest_30 rfl rfl ?_
      obtain ⟨q12, g13, e⟩ := ob_some e
      refine V_getR (pc := 31) (ci := 7) (k := 2) (b := q12) dX8_lowest_31 fl_X8_19 rfl (of_decide_eq_true g1) g13 ?_
      refine V_iload_n (pc := 34) (i := 3) dX8_lowest_34 rfl rfl ?_
      obtain ⟨g14, e⟩ := gd_some e
      obtain ⟨g15, e⟩ := gd_some e
      refine V_iald (pc := 35) dX8_lowest_35 (of_decide_eq_true g14) (ix_in g15) ?_
      refine V_goto (pc := 36) (tgt := 45) dX8_lowest_36 (by decide) ?_
      exact V_pick [0, 1, 2] rfl (r_X8_lowest_b45 v0 v1 v3 v2 (zI h v1 (zI h q2 (v3).toNatClampNeg).toNatClampNeg) (zI h q12 (v3).toNatClampNeg) h e kI kE54)
set_option maxRecDepth 100000 in
def F_X8_lowest_b0 (v0 : Nat) (v1 : Nat) (h : Hp) : Option Int32 :=
  ob (iter (fun z : Int32 × Int32 => F_X8_lowest_l4 v0 v1 z.1 z.2 h) FU ((0 : Int32), (0 : Int32))) (fun w18 => some w18)
set_option maxHeartbeats 4000000 in
set_option maxRecDepth 100000 in
theorem r_X8_lowest_b0 (v0 : Nat) (v1 : Nat) (h : Hp) {x : Cx} {r : Int32} (e : F_X8_lowest_b0 v0 v1 h = some r) (hF : Fin9 M_X8_lowest x (some .int) (some (.int r)) h) : V M_X8_lowest x 0 0 [(0, .ref v0), (1, .ref v1)] [] h 0 0 := by
  unfold F_X8_lowest_b0 at e
  refine V_iconst (pc := 0) (v := (0 : Int32)) dX8_lowest_0 (by decide) ?_
  refine V_istore_n (pc := 1) (i := 2) (lv' := [(2, .int (0 : Int32)), (0, .ref v0), (1, .ref v1)]) dX8_lowest_1 rfl (by decide) rfl ?_
  refine V_iconst (pc := 2) (v := (0 : Int32)) dX8_lowest_2 (by decide) ?_
  refine V_istore_n (pc := 3) (i := 3) (lv' := [(3, .int (0 : Int32)), (2, .int (0 : Int32)), (0, .ref v0), (1, .ref v1)]) dX8_lowest_3 rfl (by decide) rfl ?_
  refine V_pick [2, 3, 1, 0] rfl ?_
  obtain ⟨y19, g20, e⟩ := ob_some e
  refine iter_V (P := fun z : Int32 × Int32 => V M_X8_lowest x 0 4 [(0, .ref v0), (1, .ref v1), (2, .int z.1), (3, .int z.2)] [] h 0 0) (E := fun z : Int32 => V M_X8_lowest x 0 54 [(2, .int z)] [] h 0 0) (fun z o e9 k1 k2 => r_X8_lowest_l4 v0 v1 z.1 z.2 h e9 (fun z hz9 => k1 z hz9) (fun z hz9 => k2 _ hz9)) _ _ _ g20 ?_
  clear g20
  obtain ⟨w18, rfl⟩ : ∃ q, q = y19 := ⟨_, rfl⟩
  replace e : (some w18) = some r := e
  show V M_X8_lowest x 0 54 [(2, .int w18)] [] h 0 0
  refine V_iload_n (pc := 54) (i := 2) dX8_lowest_54 rfl rfl ?_
  cases e
  exact V_iret (pc := 55) dX8_lowest_55 hF
def F_X8_lowest (v0 : Nat) (v1 : Nat) (h : Hp) : Option Int32 := F_X8_lowest_b0 v0 v1 h
theorem c_X8_lowest {l : Launch} (v0 : Nat) (v1 : Nat) (h : Hp) {r : Int32} (e : F_X8_lowest v0 v1 h = some r) : Ct l yX8_lowest M_X8_lowest (some .int) 0 [.ref v0, .ref v1] h 0 0 (some (.int r)) h :=
  Ct_of rfl rfl (fun q => by cases q) (Nat.le_of_ble_eq_true rfl) (fun x _ hF => V_pick [0, 1] rfl (r_X8_lowest_b0 v0 v1 h e hF))
theorem dX8_highest_0 : decode cX8_highest 0 = .ok (.iconst 0, 1) := by decide +kernel
theorem dX8_highest_1 : decode cX8_highest 1 = .ok (.istore_n 2, 1) := by decide +kernel
theorem dX8_highest_2 : decode cX8_highest 2 = .ok (.iconst 0, 1) := by decide +kernel
theorem dX8_highest_3 : decode cX8_highest 3 = .ok (.istore_n 3, 1) := by decide +kernel
theorem dX8_highest_4 : decode cX8_highest 4 = .ok (.iload_n 3, 1) := by decide +kernel
theorem dX8_highest_5 : decode cX8_highest 5 = .ok (.aload_n 0, 1) := by decide +kernel
theorem dX8_highest_6 : decode cX8_highest 6 = .ok (.getfield 9, 3) := by decide +kernel
theorem dX8_highest_9 : decode cX8_highest 9 = .ok (.if_icmp .ge 45, 3) := by decide +kernel
theorem dX8_highest_12 : decode cX8_highest 12 = .ok (.aload_n 1, 1) := by decide +kernel
theorem dX8_highest_13 : decode cX8_highest 13 = .ok (.aload_n 0, 1) := by decide +kernel
theorem dX8_highest_14 : decode cX8_highest 14 = .ok (.getfield 22, 3) := by decide +kernel
theorem dX8_highest_17 : decode cX8_highest 17 = .ok (.iload_n 3, 1) := by decide +kernel
theorem dX8_highest_18 : decode cX8_highest 18 = .ok (.iaload, 1) := by decide +kernel
theorem dX8_highest_19 : decode cX8_highest 19 = .ok (.iaload, 1) := by decide +kernel
theorem dX8_highest_20 : decode cX8_highest 20 = .ok (.istore 4, 2) := by decide +kernel
theorem dX8_highest_22 : decode cX8_highest 22 = .ok (.iload_n 2, 1) := by decide +kernel
theorem dX8_highest_23 : decode cX8_highest 23 = .ok (.iload 4, 2) := by decide +kernel
theorem dX8_highest_25 : decode cX8_highest 25 = .ok (.iload 4, 2) := by decide +kernel
theorem dX8_highest_27 : decode cX8_highest 27 = .ok (.ifCond .ge 12, 3) := by decide +kernel
theorem dX8_highest_30 : decode cX8_highest 30 = .ok (.aload_n 0, 1) := by decide +kernel
theorem dX8_highest_31 : decode cX8_highest 31 = .ok (.getfield 15, 3) := by decide +kernel
theorem dX8_highest_34 : decode cX8_highest 34 = .ok (.iload_n 3, 1) := by decide +kernel
theorem dX8_highest_35 : decode cX8_highest 35 = .ok (.iaload, 1) := by decide +kernel
theorem dX8_highest_36 : decode cX8_highest 36 = .ok (.goto 9, 3) := by decide +kernel
theorem dX8_highest_39 : decode cX8_highest 39 = .ok (.aload_n 0, 1) := by decide +kernel
theorem dX8_highest_40 : decode cX8_highest 40 = .ok (.getfield 19, 3) := by decide +kernel
theorem dX8_highest_43 : decode cX8_highest 43 = .ok (.iload_n 3, 1) := by decide +kernel
theorem dX8_highest_44 : decode cX8_highest 44 = .ok (.iaload, 1) := by decide +kernel
theorem dX8_highest_45 : decode cX8_highest 45 = .ok (.imul, 1) := by decide +kernel
theorem dX8_highest_46 : decode cX8_highest 46 = .ok (.iadd, 1) := by decide +kernel
theorem dX8_highest_47 : decode cX8_highest 47 = .ok (.istore_n 2, 1) := by decide +kernel
theorem dX8_highest_48 : decode cX8_highest 48 = .ok (.iinc 3 1, 3) := by decide +kernel
theorem dX8_highest_51 : decode cX8_highest 51 = .ok (.goto (-47), 3) := by decide +kernel
theorem dX8_highest_54 : decode cX8_highest 54 = .ok (.iload_n 2, 1) := by decide +kernel
theorem dX8_highest_55 : decode cX8_highest 55 = .ok (.ireturn, 1) := by decide +kernel
set_option maxRecDepth 100000 in
def F_X8_highest_b45 (v0 : Nat) (v1 : Nat) (v3 : Int32) (t0 : Int32) (t1 : Int32) (t2 : Int32) (h : Hp) : Option ((Int32 × Int32) ⊕ Int32) :=
  some (.inl (t0 + (t1 * t2), v3 + (1 : Int32)))
set_option maxHeartbeats 4000000 in
set_option maxRecDepth 100000 in
theorem r_X8_highest_b45 (v0 : Nat) (v1 : Nat) (v3 : Int32) (t0 : Int32) (t1 : Int32) (t2 : Int32) (h : Hp) {x : Cx} {o : ((Int32 × Int32) ⊕ Int32)} (e : F_X8_highest_b45 v0 v1 v3 t0 t1 t2 h = some o) (kI : ∀ z, o = .inl z → V M_X8_highest x 0 4 [(0, .ref v0), (1, .ref v1), (2, .int z.1), (3, .int z.2)] [] h 0 0) (kE54 : ∀ z : Int32, o = .inr z → V M_X8_highest x 0 54 [(2, .int z)] [] h 0 0) : V M_X8_highest x 0 45 [(0, .ref v0), (1, .ref v1), (3, .int v3)] [.int t2, .int t1, .int t0] h 0 0 := by
  unfold F_X8_highest_b45 at e
  refine V_imul (pc := 45) dX8_highest_45 ?_
  refine V_iadd (pc := 46) dX8_highest_46 ?_
  refine V_istore_n (pc := 47) (i := 2) (lv' := [(2, .int (t0 + (t1 * t2))), (0, .ref v0), (1, .ref v1), (3, .int v3)]) dX8_highest_47 rfl (by decide) rfl ?_
  refine V_iinc (pc := 48) (i := 3) (u := v3 + (1 : Int32)) (lv' := [(3, .int (v3 + (1 : Int32))), (2, .int (t0 + (t1 * t2))), (0, .ref v0), (1, .ref v1)]) dX8_highest_48 rfl rfl (by decide) rfl ?_
  refine V_goto (pc := 51) (tgt := 4) dX8_highest_51 (by decide) ?_
  cases e
  exact V_pick [2, 3, 1, 0] rfl (kI (t0 + (t1 * t2), v3 + (1 : Int32)) rfl)
set_option maxRecDepth 100000 in
def F_X8_highest_l4 (v0 : Nat) (v1 : Nat) (v2 : Int32) (v3 : Int32) (h : Hp) : Option ((Int32 × Int32) ⊕ Int32) :=
  gd (decide (kd h v0 = 7)) <| (if (zI h v0 0) ≤ v3 then some (.inr v2) else ob (zR h v0 3) fun q2 => gd (decide (kd h q2 = 13)) <| gd (ix v3 (zl h q2)) <| gd (decide (kd h v1 = 13)) <| gd (ix (zI h q2 (v3).toNatClampNeg) (zl h v1)) <| (if 0 ≤ (zI h v1 (zI h q2 (v3).toNatClampNeg).toNatClampNeg) then ob (zR h v0 2) fun q8 => gd (decide (kd h q8 = 13)) <| gd (ix v3 (zl h q8)) <| F_X8_highest_b45 v0 v1 v3 v2 (zI h v1 (zI h q2 (v3).toNatClampNeg).toNatClampNeg) (zI h q8 (v3).toNatClampNeg) h else ob (zR h v0 1) fun q12 => gd (decide (kd h q12 = 13)) <| gd (ix v3 (zl h q12)) <| F_X8_highest_b45 v0 v1 v3 v2 (zI h v1 (zI h q2 (v3).toNatClampNeg).toNatClampNeg) (zI h q12 (v3).toNatClampNeg) h))
set_option maxHeartbeats 4000000 in
set_option maxRecDepth 100000 in
theorem r_X8_highest_l4 (v0 : Nat) (v1 : Nat) (v2 : Int32) (v3 : Int32) (h : Hp) {x : Cx} {o : ((Int32 × Int32) ⊕ Int32)} (e : F_X8_highest_l4 v0 v1 v2 v3 h = some o) (kI : ∀ z, o = .inl z → V M_X8_highest x 0 4 [(0, .ref v0), (1, .ref v1), (2, .int z.1), (3, .int z.2)] [] h 0 0) (kE54 : ∀ z : Int32, o = .inr z → V M_X8_highest x 0 54 [(2, .int z)] [] h 0 0) : V M_X8_highest x 0 4 [(0, .ref v0), (1, .ref v1), (2, .int v2), (3, .int v3)] [] h 0 0 := by
  unfold F_X8_highest_l4 at e
  refine V_iload_n (pc := 4) (i := 3) dX8_highest_4 rfl rfl ?_
  refine V_aload_n (pc := 5) (i := 0) dX8_highest_5 rfl rfl ?_
  obtain ⟨g1, e⟩ := gd_some e
  refine V_getI (pc := 6) (ci := 7) (k := 0) dX8_highest_6 fl_X8_9 rfl (of_decide_eq_true g1) ?_
  refine V_icmp_ge (pc := 9) (tgt := 54) dX8_highest_9 (by decide) (fun c17 => ?_) (fun c17 => ?_)
  · rw [if_pos c17] at e
    cases e
    exact V_pick [2] rfl (kE54 v2 rfl)
  · rw [if_neg c17] at e
    refine V_pick [0, 1, 2, 3] rfl ?_
    refine V_aload_n (pc := 12) (i := 1) dX8_highest_12 rfl rfl ?_
    refine V_aload_n (pc := 13) (i := 0) dX8_highest_13 rfl rfl ?_
    obtain ⟨q2, g3, e⟩ := ob_some e
    refine V_getR (pc := 14) (ci := 7) (k := 3) (b := q2) dX8_highest_14 fl_X8_22 rfl (of_decide_eq_true g1) g3 ?_
    refine V_iload_n (pc := 17) (i := 3) dX8_highest_17 rfl rfl ?_
    obtain ⟨g4, e⟩ := gd_some e
    obtain ⟨g5, e⟩ := gd_some e
    refine V_iald (pc := 18) dX8_highest_18 (of_decide_eq_true g4) (ix_in g5) ?_
    obtain ⟨g6, e⟩ := gd_some e
    obtain ⟨g7, e⟩ := gd_some e
    refine V_iald (pc := 19) dX8_highest_19 (of_decide_eq_true g6) (ix_in g7) ?_
    refine V_istore (pc := 20) (i := 4) (lv' := [(4, .int (zI h v1 (zI h q2 (v3).toNatClampNeg).toNatClampNeg)), (0, .ref v0), (1, .ref v1), (2, .int v2), (3, .int v3)]) dX8_highest_20 (by decide) rfl ?_
    refine V_iload_n (pc := 22) (i := 2) dX8_highest_22 rfl rfl ?_
    refine V_iload (pc := 23) (i := 4) dX8_highest_23 rfl ?_
    refine V_iload (pc := 25) (i := 4) dX8_highest_25 rfl ?_
    refine V_if_ge (pc := 27) (tgt := 39) dX8_highest_27 (by decide) (fun c16 => ?_) (fun c16 => ?_)
    · rw [if_pos c16] at e
      refine V_pick [1, 2, 4] rfl ?_
      refine V_aload_n (pc := 39) (i := 0) dX8_highest_39 rfl rfl ?_
      obtain ⟨q8, g9, e⟩ := ob_some e
      refine V_getR (pc := 40) (ci := 7) (k := 2) (b := q8) dX8_highest_40 fl_X8_19 rfl (of_decide_eq_true g1) g9 ?_
      refine V_iload_n (pc := 43) (i := 3) dX8_highest_43 rfl rfl ?_
      obtain ⟨g10, e⟩ := gd_some e
      obtain ⟨g11, e⟩ := gd_some e
      refine V_iald (pc := 44) dX8_highest_44 (of_decide_eq_true g10) (ix_in g11) ?_
      exact V_pick [0, 1, 2] rfl (r_X8_highest_b45 v0 v1 v3 v2 (zI h v1 (zI h q2 (v3).toNatClampNeg).toNatClampNeg) (zI h q8 (v3).toNatClampNeg) h e kI kE54)
    · rw [if_neg c16] at e
      refine V_pick [1, 2, 4] rfl ?_
      refine V_aload_n (pc := 30) (i := 0) dX8_highest_30 rfl rfl ?_
      obtain ⟨q12, g13, e⟩ := ob_some e
      refine V_getR (pc := 31) (ci := 7) (k := 1) (b := q12) dX8_highest_31 fl_X8_15 rfl (of_decide_eq_true g1) g13 ?_
      refine V_iload_n (pc := 34) (i := 3) dX8_highest_34 rfl rfl ?_
      obtain ⟨g14, e⟩ := gd_some e
      obtain ⟨g15, e⟩ := gd_some e
      refine V_iald (pc := 35) dX8_highest_35 (of_decide_eq_true g14) (ix_in g15) ?_
      refine V_goto (pc := 36) (tgt := 45) dX8_highest_36 (by decide) ?_
      exact V_pick [0, 1, 2] rfl (r_X8_highest_b45 v0 v1 v3 v2 (zI h v1 (zI h q2 (v3).toNatClampNeg).toNatClampNeg) (zI h q12 (v3).toNatClampNeg) h e kI kE54)
set_option maxRecDepth 100000 in
def F_X8_highest_b0 (v0 : Nat) (v1 : Nat) (h : Hp) : Option Int32 :=
  ob (iter (fun z : Int32 × Int32 => F_X8_highest_l4 v0 v1 z.1 z.2 h) FU ((0 : Int32), (0 : Int32))) (fun w18 => some w18)
set_option maxHeartbeats 4000000 in
set_option maxRecDepth 100000 in
theorem r_X8_highest_b0 (v0 : Nat) (v1 : Nat) (h : Hp) {x : Cx} {r : Int32} (e : F_X8_highest_b0 v0 v1 h = some r) (hF : Fin9 M_X8_highest x (some .int) (some (.int r)) h) : V M_X8_highest x 0 0 [(0, .ref v0), (1, .ref v1)] [] h 0 0 := by
  unfold F_X8_highest_b0 at e
  refine V_iconst (pc := 0) (v := (0 : Int32)) dX8_highest_0 (by decide) ?_
  refine V_istore_n (pc := 1) (i := 2) (lv' := [(2, .int (0 : Int32)), (0, .ref v0), (1, .ref v1)]) dX8_highest_1 rfl (by decide) rfl ?_
  refine V_iconst (pc := 2) (v := (0 : Int32)) dX8_highest_2 (by decide) ?_
  refine V_istore_n (pc := 3) (i := 3) (lv' := [(3, .int (0 : Int32)), (2, .int (0 : Int32)), (0, .ref v0), (1, .ref v1)]) dX8_highest_3 rfl (by decide) rfl ?_
  refine V_pick [2, 3, 1, 0] rfl ?_
  obtain ⟨y19, g20, e⟩ := ob_some e
  refine iter_V (P := fun z : Int32 × Int32 => V M_X8_highest x 0 4 [(0, .ref v0), (1, .ref v1), (2, .int z.1), (3, .int z.2)] [] h 0 0) (E := fun z : Int32 => V M_X8_highest x 0 54 [(2, .int z)] [] h 0 0) (fun z o e9 k1 k2 => r_X8_highest_l4 v0 v1 z.1 z.2 h e9 (fun z hz9 => k1 z hz9) (fun z hz9 => k2 _ hz9)) _ _ _ g20 ?_
  clear g20
  obtain ⟨w18, rfl⟩ : ∃ q, q = y19 := ⟨_, rfl⟩
  replace e : (some w18) = some r := e
  show V M_X8_highest x 0 54 [(2, .int w18)] [] h 0 0
  refine V_iload_n (pc := 54) (i := 2) dX8_highest_54 rfl rfl ?_
  cases e
  exact V_iret (pc := 55) dX8_highest_55 hF
def F_X8_highest (v0 : Nat) (v1 : Nat) (h : Hp) : Option Int32 := F_X8_highest_b0 v0 v1 h
theorem c_X8_highest {l : Launch} (v0 : Nat) (v1 : Nat) (h : Hp) {r : Int32} (e : F_X8_highest v0 v1 h = some r) : Ct l yX8_highest M_X8_highest (some .int) 0 [.ref v0, .ref v1] h 0 0 (some (.int r)) h :=
  Ct_of rfl rfl (fun q => by cases q) (Nat.le_of_ble_eq_true rfl) (fun x _ hF => V_pick [0, 1] rfl (r_X8_highest_b0 v0 v1 h e hF))
theorem dX8_leastBeside_0 : decode cX8_leastBeside 0 = .ok (.iconst 0, 1) := by decide +kernel
theorem dX8_leastBeside_1 : decode cX8_leastBeside 1 = .ok (.istore_n 3, 1) := by decide +kernel
theorem dX8_leastBeside_2 : decode cX8_leastBeside 2 = .ok (.iconst 0, 1) := by decide +kernel
theorem dX8_leastBeside_3 : decode cX8_leastBeside 3 = .ok (.istore 4, 2) := by decide +kernel
theorem dX8_leastBeside_5 : decode cX8_leastBeside 5 = .ok (.iload 4, 2) := by decide +kernel
theorem dX8_leastBeside_7 : decode cX8_leastBeside 7 = .ok (.aload_n 0, 1) := by decide +kernel
theorem dX8_leastBeside_8 : decode cX8_leastBeside 8 = .ok (.getfield 9, 3) := by decide +kernel
theorem dX8_leastBeside_11 : decode cX8_leastBeside 11 = .ok (.if_icmp .ge 35, 3) := by decide +kernel
theorem dX8_leastBeside_14 : decode cX8_leastBeside 14 = .ok (.iload 4, 2) := by decide +kernel
theorem dX8_leastBeside_16 : decode cX8_leastBeside 16 = .ok (.iload_n 1, 1) := by decide +kernel
theorem dX8_leastBeside_17 : decode cX8_leastBeside 17 = .ok (.if_icmp .eq 23, 3) := by decide +kernel
theorem dX8_leastBeside_20 : decode cX8_leastBeside 20 = .ok (.iload_n 3, 1) := by decide +kernel
theorem dX8_leastBeside_21 : decode cX8_leastBeside 21 = .ok (.aload_n 0, 1) := by decide +kernel
theorem dX8_leastBeside_22 : decode cX8_leastBeside 22 = .ok (.getfield 15, 3) := by decide +kernel
theorem dX8_leastBeside_25 : decode cX8_leastBeside 25 = .ok (.iload 4, 2) := by decide +kernel
theorem dX8_leastBeside_27 : decode cX8_leastBeside 27 = .ok (.iaload, 1) := by decide +kernel
theorem dX8_leastBeside_28 : decode cX8_leastBeside 28 = .ok (.aload_n 2, 1) := by decide +kernel
theorem dX8_leastBeside_29 : decode cX8_leastBeside 29 = .ok (.aload_n 0, 1) := by decide +kernel
theorem dX8_leastBeside_30 : decode cX8_leastBeside 30 = .ok (.getfield 22, 3) := by decide +kernel
theorem dX8_leastBeside_33 : decode cX8_leastBeside 33 = .ok (.iload 4, 2) := by decide +kernel
theorem dX8_leastBeside_35 : decode cX8_leastBeside 35 = .ok (.iaload, 1) := by decide +kernel
theorem dX8_leastBeside_36 : decode cX8_leastBeside 36 = .ok (.iaload, 1) := by decide +kernel
theorem dX8_leastBeside_37 : decode cX8_leastBeside 37 = .ok (.imul, 1) := by decide +kernel
theorem dX8_leastBeside_38 : decode cX8_leastBeside 38 = .ok (.iadd, 1) := by decide +kernel
theorem dX8_leastBeside_39 : decode cX8_leastBeside 39 = .ok (.istore_n 3, 1) := by decide +kernel
theorem dX8_leastBeside_40 : decode cX8_leastBeside 40 = .ok (.iinc 4 1, 3) := by decide +kernel
theorem dX8_leastBeside_43 : decode cX8_leastBeside 43 = .ok (.goto (-38), 3) := by decide +kernel
theorem dX8_leastBeside_46 : decode cX8_leastBeside 46 = .ok (.iload_n 3, 1) := by decide +kernel
theorem dX8_leastBeside_47 : decode cX8_leastBeside 47 = .ok (.ireturn, 1) := by decide +kernel
set_option maxRecDepth 100000 in
def F_X8_leastBeside_b40 (v0 : Nat) (v1 : Int32) (v2 : Nat) (v3 : Int32) (v4 : Int32) (h : Hp) : Option ((Int32 × Int32) ⊕ Int32) :=
  some (.inl (v3, v4 + (1 : Int32)))
set_option maxHeartbeats 4000000 in
set_option maxRecDepth 100000 in
theorem r_X8_leastBeside_b40 (v0 : Nat) (v1 : Int32) (v2 : Nat) (v3 : Int32) (v4 : Int32) (h : Hp) {x : Cx} {o : ((Int32 × Int32) ⊕ Int32)} (e : F_X8_leastBeside_b40 v0 v1 v2 v3 v4 h = some o) (kI : ∀ z, o = .inl z → V M_X8_leastBeside x 0 5 [(0, .ref v0), (1, .int v1), (2, .ref v2), (3, .int z.1), (4, .int z.2)] [] h 0 0) (kE46 : ∀ z : Int32, o = .inr z → V M_X8_leastBeside x 0 46 [(3, .int z)] [] h 0 0) : V M_X8_leastBeside x 0 40 [(0, .ref v0), (1, .int v1), (2, .ref v2), (3, .int v3), (4, .int v4)] [] h 0 0 := by
  unfold F_X8_leastBeside_b40 at e
  refine V_iinc (pc := 40) (i := 4) (u := v4 + (1 : Int32)) (lv' := [(4, .int (v4 + (1 : Int32))), (0, .ref v0), (1, .int v1), (2, .ref v2), (3, .int v3)]) dX8_leastBeside_40 rfl rfl (by decide) rfl ?_
  refine V_goto (pc := 43) (tgt := 5) dX8_leastBeside_43 (by decide) ?_
  cases e
  exact V_pick [1, 2, 3, 4, 0] rfl (kI (v3, v4 + (1 : Int32)) rfl)
set_option maxRecDepth 100000 in
def F_X8_leastBeside_l5 (v0 : Nat) (v1 : Int32) (v2 : Nat) (v3 : Int32) (v4 : Int32) (h : Hp) : Option ((Int32 × Int32) ⊕ Int32) :=
  gd (decide (kd h v0 = 7)) <| (if (zI h v0 0) ≤ v4 then some (.inr v3) else (if v4 = v1 then F_X8_leastBeside_b40 v0 v1 v2 v3 v4 h else ob (zR h v0 1) fun q2 => gd (decide (kd h q2 = 13)) <| gd (ix v4 (zl h q2)) <| ob (zR h v0 3) fun q6 => gd (decide (kd h q6 = 13)) <| gd (ix v4 (zl h q6)) <| gd (decide (kd h v2 = 13)) <| gd (ix (zI h q6 (v4).toNatClampNeg) (zl h v2)) <| F_X8_leastBeside_b40 v0 v1 v2 (v3 + ((zI h q2 (v4).toNatClampNeg) * (zI h v2 (zI h q6 (v4).toNatClampNeg).toNatClampNeg))) v4 h))
set_option maxHeartbeats 4000000 in
set_option maxRecDepth 100000 in
theorem r_X8_leastBeside_l5 (v0 : Nat) (v1 : Int32) (v2 : Nat) (v3 : Int32) (v4 : Int32) (h : Hp) {x : Cx} {o : ((Int32 × Int32) ⊕ Int32)} (e : F_X8_leastBeside_l5 v0 v1 v2 v3 v4 h = some o) (kI : ∀ z, o = .inl z → V M_X8_leastBeside x 0 5 [(0, .ref v0), (1, .int v1), (2, .ref v2), (3, .int z.1), (4, .int z.2)] [] h 0 0) (kE46 : ∀ z : Int32, o = .inr z → V M_X8_leastBeside x 0 46 [(3, .int z)] [] h 0 0) : V M_X8_leastBeside x 0 5 [(0, .ref v0), (1, .int v1), (2, .ref v2), (3, .int v3), (4, .int v4)] [] h 0 0 := by
  unfold F_X8_leastBeside_l5 at e
  refine V_iload (pc := 5) (i := 4) dX8_leastBeside_5 rfl ?_
  refine V_aload_n (pc := 7) (i := 0) dX8_leastBeside_7 rfl rfl ?_
  obtain ⟨g1, e⟩ := gd_some e
  refine V_getI (pc := 8) (ci := 7) (k := 0) dX8_leastBeside_8 fl_X8_9 rfl (of_decide_eq_true g1) ?_
  refine V_icmp_ge (pc := 11) (tgt := 46) dX8_leastBeside_11 (by decide) (fun c13 => ?_) (fun c13 => ?_)
  · rw [if_pos c13] at e
    cases e
    exact V_pick [3] rfl (kE46 v3 rfl)
  · rw [if_neg c13] at e
    refine V_pick [0, 1, 2, 3, 4] rfl ?_
    refine V_iload (pc := 14) (i := 4) dX8_leastBeside_14 rfl ?_
    refine V_iload_n (pc := 16) (i := 1) dX8_leastBeside_16 rfl rfl ?_
    refine V_icmp_eq (pc := 17) (tgt := 40) dX8_leastBeside_17 (by decide) (fun c12 => ?_) (fun c12 => ?_)
    · rw [if_pos c12] at e
      exact V_pick [0, 1, 2, 3, 4] rfl (r_X8_leastBeside_b40 v0 v1 v2 v3 v4 h e kI kE46)
    · rw [if_neg c12] at e
      refine V_pick [0, 1, 2, 3, 4] rfl ?_
      refine V_iload_n (pc := 20) (i := 3) dX8_leastBeside_20 rfl rfl ?_
      refine V_aload_n (pc := 21) (i := 0) dX8_leastBeside_21 rfl rfl ?_
      obtain ⟨q2, g3, e⟩ := ob_some e
      refine V_getR (pc := 22) (ci := 7) (k := 1) (b := q2) dX8_leastBeside_22 fl_X8_15 rfl (of_decide_eq_true g1) g3 ?_
      refine V_iload (pc := 25) (i := 4) dX8_leastBeside_25 rfl ?_
      obtain ⟨g4, e⟩ := gd_some e
      obtain ⟨g5, e⟩ := gd_some e
      refine V_iald (pc := 27) dX8_leastBeside_27 (of_decide_eq_true g4) (ix_in g5) ?_
      refine V_aload_n (pc := 28) (i := 2) dX8_leastBeside_28 rfl rfl ?_
      refine V_aload_n (pc := 29) (i := 0) dX8_leastBeside_29 rfl rfl ?_
      obtain ⟨q6, g7, e⟩ := ob_some e
      refine V_getR (pc := 30) (ci := 7) (k := 3) (b := q6) dX8_leastBeside_30 fl_X8_22 rfl (of_decide_eq_true g1) g7 ?_
      refine V_iload (pc := 33) (i := 4) dX8_leastBeside_33 rfl ?_
      obtain ⟨g8, e⟩ := gd_some e
      obtain ⟨g9, e⟩ := gd_some e
      refine V_iald (pc := 35) dX8_leastBeside_35 (of_decide_eq_true g8) (ix_in g9) ?_
      obtain ⟨g10, e⟩ := gd_some e
      obtain ⟨g11, e⟩ := gd_some e
      refine V_iald (pc := 36) dX8_leastBeside_36 (of_decide_eq_true g10) (ix_in g11) ?_
      refine V_imul (pc := 37) dX8_leastBeside_37 ?_
      refine V_iadd (pc := 38) dX8_leastBeside_38 ?_
      refine V_istore_n (pc := 39) (i := 3) (lv' := [(3, .int (v3 + ((zI h q2 (v4).toNatClampNeg) * (zI h v2 (zI h q6 (v4).toNatClampNeg).toNatClampNeg)))), (0, .ref v0), (1, .int v1), (2, .ref v2), (4, .int v4)]) dX8_leastBeside_39 rfl (by decide) rfl ?_
      exact V_pick [1, 2, 3, 0, 4] rfl (r_X8_leastBeside_b40 v0 v1 v2 (v3 + ((zI h q2 (v4).toNatClampNeg) * (zI h v2 (zI h q6 (v4).toNatClampNeg).toNatClampNeg))) v4 h e kI kE46)
set_option maxRecDepth 100000 in
def F_X8_leastBeside_b0 (v0 : Nat) (v1 : Int32) (v2 : Nat) (h : Hp) : Option Int32 :=
  ob (iter (fun z : Int32 × Int32 => F_X8_leastBeside_l5 v0 v1 v2 z.1 z.2 h) FU ((0 : Int32), (0 : Int32))) (fun w14 => some w14)
set_option maxHeartbeats 4000000 in
set_option maxRecDepth 100000 in
theorem r_X8_leastBeside_b0 (v0 : Nat) (v1 : Int32) (v2 : Nat) (h : Hp) {x : Cx} {r : Int32} (e : F_X8_leastBeside_b0 v0 v1 v2 h = some r) (hF : Fin9 M_X8_leastBeside x (some .int) (some (.int r)) h) : V M_X8_leastBeside x 0 0 [(0, .ref v0), (1, .int v1), (2, .ref v2)] [] h 0 0 := by
  unfold F_X8_leastBeside_b0 at e
  refine V_iconst (pc := 0) (v := (0 : Int32)) dX8_leastBeside_0 (by decide) ?_
  refine V_istore_n (pc := 1) (i := 3) (lv' := [(3, .int (0 : Int32)), (0, .ref v0), (1, .int v1), (2, .ref v2)]) dX8_leastBeside_1 rfl (by decide) rfl ?_
  refine V_iconst (pc := 2) (v := (0 : Int32)) dX8_leastBeside_2 (by decide) ?_
  refine V_istore (pc := 3) (i := 4) (lv' := [(4, .int (0 : Int32)), (3, .int (0 : Int32)), (0, .ref v0), (1, .int v1), (2, .ref v2)]) dX8_leastBeside_3 (by decide) rfl ?_
  refine V_pick [2, 3, 4, 1, 0] rfl ?_
  obtain ⟨y15, g16, e⟩ := ob_some e
  refine iter_V (P := fun z : Int32 × Int32 => V M_X8_leastBeside x 0 5 [(0, .ref v0), (1, .int v1), (2, .ref v2), (3, .int z.1), (4, .int z.2)] [] h 0 0) (E := fun z : Int32 => V M_X8_leastBeside x 0 46 [(3, .int z)] [] h 0 0) (fun z o e9 k1 k2 => r_X8_leastBeside_l5 v0 v1 v2 z.1 z.2 h e9 (fun z hz9 => k1 z hz9) (fun z hz9 => k2 _ hz9)) _ _ _ g16 ?_
  clear g16
  obtain ⟨w14, rfl⟩ : ∃ q, q = y15 := ⟨_, rfl⟩
  replace e : (some w14) = some r := e
  show V M_X8_leastBeside x 0 46 [(3, .int w14)] [] h 0 0
  refine V_iload_n (pc := 46) (i := 3) dX8_leastBeside_46 rfl rfl ?_
  cases e
  exact V_iret (pc := 47) dX8_leastBeside_47 hF
def F_X8_leastBeside (v0 : Nat) (v1 : Int32) (v2 : Nat) (h : Hp) : Option Int32 := F_X8_leastBeside_b0 v0 v1 v2 h
theorem c_X8_leastBeside {l : Launch} (v0 : Nat) (v1 : Int32) (v2 : Nat) (h : Hp) {r : Int32} (e : F_X8_leastBeside v0 v1 v2 h = some r) : Ct l yX8_leastBeside M_X8_leastBeside (some .int) 0 [.ref v0, .int v1, .ref v2] h 0 0 (some (.int r)) h :=
  Ct_of rfl rfl (fun q => by cases q) (Nat.le_of_ble_eq_true rfl) (fun x _ hF => V_pick [0, 1, 2] rfl (r_X8_leastBeside_b0 v0 v1 v2 h e hF))
theorem dX8_nextRoom_0 : decode cX8_nextRoom 0 = .ok (.iconst (-1), 1) := by decide +kernel
theorem dX8_nextRoom_1 : decode cX8_nextRoom 1 = .ok (.istore 5, 2) := by decide +kernel
theorem dX8_nextRoom_3 : decode cX8_nextRoom 3 = .ok (.iconst 0, 1) := by decide +kernel
theorem dX8_nextRoom_4 : decode cX8_nextRoom 4 = .ok (.istore 6, 2) := by decide +kernel
theorem dX8_nextRoom_6 : decode cX8_nextRoom 6 = .ok (.iload 6, 2) := by decide +kernel
theorem dX8_nextRoom_8 : decode cX8_nextRoom 8 = .ok (.iload 4, 2) := by decide +kernel
theorem dX8_nextRoom_10 : decode cX8_nextRoom 10 = .ok (.if_icmp .ge 68, 3) := by decide +kernel
theorem dX8_nextRoom_13 : decode cX8_nextRoom 13 = .ok (.aload_n 2, 1) := by decide +kernel
theorem dX8_nextRoom_14 : decode cX8_nextRoom 14 = .ok (.iload 6, 2) := by decide +kernel
theorem dX8_nextRoom_16 : decode cX8_nextRoom 16 = .ok (.iaload, 1) := by decide +kernel
theorem dX8_nextRoom_17 : decode cX8_nextRoom 17 = .ok (.aload_n 2, 1) := by decide +kernel
theorem dX8_nextRoom_18 : decode cX8_nextRoom 18 = .ok (.iload_n 0, 1) := by decide +kernel
theorem dX8_nextRoom_19 : decode cX8_nextRoom 19 = .ok (.iaload, 1) := by decide +kernel
theorem dX8_nextRoom_20 : decode cX8_nextRoom 20 = .ok (.if_icmp .ne 20, 3) := by decide +kernel
theorem dX8_nextRoom_23 : decode cX8_nextRoom 23 = .ok (.iload_n 3, 1) := by decide +kernel
theorem dX8_nextRoom_24 : decode cX8_nextRoom 24 = .ok (.aload_n 1, 1) := by decide +kernel
theorem dX8_nextRoom_25 : decode cX8_nextRoom 25 = .ok (.iload 6, 2) := by decide +kernel
theorem dX8_nextRoom_27 : decode cX8_nextRoom 27 = .ok (.iaload, 1) := by decide +kernel
theorem dX8_nextRoom_28 : decode cX8_nextRoom 28 = .ok (.aload_n 1, 1) := by decide +kernel
theorem dX8_nextRoom_29 : decode cX8_nextRoom 29 = .ok (.iload_n 0, 1) := by decide +kernel
theorem dX8_nextRoom_30 : decode cX8_nextRoom 30 = .ok (.iaload, 1) := by decide +kernel
theorem dX8_nextRoom_31 : decode cX8_nextRoom 31 = .ok (.isub, 1) := by decide +kernel
theorem dX8_nextRoom_32 : decode cX8_nextRoom 32 = .ok (.imul, 1) := by decide +kernel
theorem dX8_nextRoom_33 : decode cX8_nextRoom 33 = .ok (.ifCond .le 7, 3) := by decide +kernel
theorem dX8_nextRoom_36 : decode cX8_nextRoom 36 = .ok (.iconst 1, 1) := by decide +kernel
theorem dX8_nextRoom_37 : decode cX8_nextRoom 37 = .ok (.goto 4, 3) := by decide +kernel
theorem dX8_nextRoom_40 : decode cX8_nextRoom 40 = .ok (.iconst 0, 1) := by decide +kernel
theorem dX8_nextRoom_41 : decode cX8_nextRoom 41 = .ok (.istore 7, 2) := by decide +kernel
theorem dX8_nextRoom_43 : decode cX8_nextRoom 43 = .ok (.iload 7, 2) := by decide +kernel
theorem dX8_nextRoom_45 : decode cX8_nextRoom 45 = .ok (.ifCond .eq 27, 3) := by decide +kernel
theorem dX8_nextRoom_48 : decode cX8_nextRoom 48 = .ok (.iload 5, 2) := by decide +kernel
theorem dX8_nextRoom_50 : decode cX8_nextRoom 50 = .ok (.iconst (-1), 1) := by decide +kernel
theorem dX8_nextRoom_51 : decode cX8_nextRoom 51 = .ok (.if_icmp .eq 17, 3) := by decide +kernel
theorem dX8_nextRoom_54 : decode cX8_nextRoom 54 = .ok (.iload_n 3, 1) := by decide +kernel
theorem dX8_nextRoom_55 : decode cX8_nextRoom 55 = .ok (.aload_n 1, 1) := by decide +kernel
theorem dX8_nextRoom_56 : decode cX8_nextRoom 56 = .ok (.iload 5, 2) := by decide +kernel
theorem dX8_nextRoom_58 : decode cX8_nextRoom 58 = .ok (.iaload, 1) := by decide +kernel
theorem dX8_nextRoom_59 : decode cX8_nextRoom 59 = .ok (.aload_n 1, 1) := by decide +kernel
theorem dX8_nextRoom_60 : decode cX8_nextRoom 60 = .ok (.iload 6, 2) := by decide +kernel
theorem dX8_nextRoom_62 : decode cX8_nextRoom 62 = .ok (.iaload, 1) := by decide +kernel
theorem dX8_nextRoom_63 : decode cX8_nextRoom 63 = .ok (.isub, 1) := by decide +kernel
theorem dX8_nextRoom_64 : decode cX8_nextRoom 64 = .ok (.imul, 1) := by decide +kernel
theorem dX8_nextRoom_65 : decode cX8_nextRoom 65 = .ok (.ifCond .le 7, 3) := by decide +kernel
theorem dX8_nextRoom_68 : decode cX8_nextRoom 68 = .ok (.iload 6, 2) := by decide +kernel
theorem dX8_nextRoom_70 : decode cX8_nextRoom 70 = .ok (.istore 5, 2) := by decide +kernel
theorem dX8_nextRoom_72 : decode cX8_nextRoom 72 = .ok (.iinc 6 1, 3) := by decide +kernel
theorem dX8_nextRoom_75 : decode cX8_nextRoom 75 = .ok (.goto (-69), 3) := by decide +kernel
theorem dX8_nextRoom_78 : decode cX8_nextRoom 78 = .ok (.iload 5, 2) := by decide +kernel
theorem dX8_nextRoom_80 : decode cX8_nextRoom 80 = .ok (.ireturn, 1) := by decide +kernel
set_option maxRecDepth 100000 in
def F_X8_nextRoom_b72 (v0 : Int32) (v1 : Nat) (v2 : Nat) (v3 : Int32) (v4 : Int32) (v5 : Int32) (v6 : Int32) (h : Hp) : Option ((Int32 × Int32) ⊕ Int32) :=
  some (.inl (v5, v6 + (1 : Int32)))
set_option maxHeartbeats 4000000 in
set_option maxRecDepth 100000 in
theorem r_X8_nextRoom_b72 (v0 : Int32) (v1 : Nat) (v2 : Nat) (v3 : Int32) (v4 : Int32) (v5 : Int32) (v6 : Int32) (h : Hp) {x : Cx} {o : ((Int32 × Int32) ⊕ Int32)} (e : F_X8_nextRoom_b72 v0 v1 v2 v3 v4 v5 v6 h = some o) (kI : ∀ z, o = .inl z → V M_X8_nextRoom x 0 6 [(0, .int v0), (1, .ref v1), (2, .ref v2), (3, .int v3), (4, .int v4), (5, .int z.1), (6, .int z.2)] [] h 0 0) (kE78 : ∀ z : Int32, o = .inr z → V M_X8_nextRoom x 0 78 [(5, .int z)] [] h 0 0) : V M_X8_nextRoom x 0 72 [(0, .int v0), (1, .ref v1), (2, .ref v2), (3, .int v3), (4, .int v4), (5, .int v5), (6, .int v6)] [] h 0 0 := by
  unfold F_X8_nextRoom_b72 at e
  refine V_iinc (pc := 72) (i := 6) (u := v6 + (1 : Int32)) (lv' := [(6, .int (v6 + (1 : Int32))), (0, .int v0), (1, .ref v1), (2, .ref v2), (3, .int v3), (4, .int v4), (5, .int v5)]) dX8_nextRoom_72 rfl rfl (by decide) rfl ?_
  refine V_goto (pc := 75) (tgt := 6) dX8_nextRoom_75 (by decide) ?_
  cases e
  exact V_pick [1, 2, 3, 4, 5, 6, 0] rfl (kI (v5, v6 + (1 : Int32)) rfl)
set_option maxRecDepth 100000 in
def F_X8_nextRoom_b68 (v0 : Int32) (v1 : Nat) (v2 : Nat) (v3 : Int32) (v4 : Int32) (v6 : Int32) (h : Hp) : Option ((Int32 × Int32) ⊕ Int32) :=
  F_X8_nextRoom_b72 v0 v1 v2 v3 v4 v6 v6 h
set_option maxHeartbeats 4000000 in
set_option maxRecDepth 100000 in
theorem r_X8_nextRoom_b68 (v0 : Int32) (v1 : Nat) (v2 : Nat) (v3 : Int32) (v4 : Int32) (v6 : Int32) (h : Hp) {x : Cx} {o : ((Int32 × Int32) ⊕ Int32)} (e : F_X8_nextRoom_b68 v0 v1 v2 v3 v4 v6 h = some o) (kI : ∀ z, o = .inl z → V M_X8_nextRoom x 0 6 [(0, .int v0), (1, .ref v1), (2, .ref v2), (3, .int v3), (4, .int v4), (5, .int z.1), (6, .int z.2)] [] h 0 0) (kE78 : ∀ z : Int32, o = .inr z → V M_X8_nextRoom x 0 78 [(5, .int z)] [] h 0 0) : V M_X8_nextRoom x 0 68 [(0, .int v0), (1, .ref v1), (2, .ref v2), (3, .int v3), (4, .int v4), (6, .int v6)] [] h 0 0 := by
  unfold F_X8_nextRoom_b68 at e
  refine V_iload (pc := 68) (i := 6) dX8_nextRoom_68 rfl ?_
  refine V_istore (pc := 70) (i := 5) (lv' := [(5, .int v6), (0, .int v0), (1, .ref v1), (2, .ref v2), (3, .int v3), (4, .int v4), (6, .int v6)]) dX8_nextRoom_70 (by decide) rfl ?_
  exact V_pick [1, 2, 3, 4, 5, 0, 6] rfl (r_X8_nextRoom_b72 v0 v1 v2 v3 v4 v6 v6 h e kI kE78)
set_option maxRecDepth 100000 in
def F_X8_nextRoom_b41 (v0 : Int32) (v1 : Nat) (v2 : Nat) (v3 : Int32) (v4 : Int32) (v5 : Int32) (v6 : Int32) (t0 : Int32) (h : Hp) : Option ((Int32 × Int32) ⊕ Int32) :=
  (if t0 = 0 then F_X8_nextRoom_b72 v0 v1 v2 v3 v4 v5 v6 h else (if v5 = (-1 : Int32) then F_X8_nextRoom_b68 v0 v1 v2 v3 v4 v6 h else gd (decide (kd h v1 = 13)) <| gd (ix v5 (zl h v1)) <| gd (ix v6 (zl h v1)) <| (if (v3 * ((zI h v1 (v5).toNatClampNeg) - (zI h v1 (v6).toNatClampNeg))) ≤ 0 then F_X8_nextRoom_b72 v0 v1 v2 v3 v4 v5 v6 h else F_X8_nextRoom_b68 v0 v1 v2 v3 v4 v6 h)))
set_option maxHeartbeats 4000000 in
set_option maxRecDepth 100000 in
theorem r_X8_nextRoom_b41 (v0 : Int32) (v1 : Nat) (v2 : Nat) (v3 : Int32) (v4 : Int32) (v5 : Int32) (v6 : Int32) (t0 : Int32) (h : Hp) {x : Cx} {o : ((Int32 × Int32) ⊕ Int32)} (e : F_X8_nextRoom_b41 v0 v1 v2 v3 v4 v5 v6 t0 h = some o) (kI : ∀ z, o = .inl z → V M_X8_nextRoom x 0 6 [(0, .int v0), (1, .ref v1), (2, .ref v2), (3, .int v3), (4, .int v4), (5, .int z.1), (6, .int z.2)] [] h 0 0) (kE78 : ∀ z : Int32, o = .inr z → V M_X8_nextRoom x 0 78 [(5, .int z)] [] h 0 0) : V M_X8_nextRoom x 0 41 [(0, .int v0), (1, .ref v1), (2, .ref v2), (3, .int v3), (4, .int v4), (5, .int v5), (6, .int v6)] [.int t0] h 0 0 := by
  unfold F_X8_nextRoom_b41 at e
  refine V_istore (pc := 41) (i := 7) (lv' := [(7, .int t0), (0, .int v0), (1, .ref v1), (2, .ref v2), (3, .int v3), (4, .int v4), (5, .int v5), (6, .int v6)]) dX8_nextRoom_41 (by decide) rfl ?_
  refine V_iload (pc := 43) (i := 7) dX8_nextRoom_43 rfl ?_
  refine V_if_eq (pc := 45) (tgt := 72) dX8_nextRoom_45 (by decide) (fun c9 => ?_) (fun c9 => ?_)
  · rw [if_pos c9] at e
    exact V_pick [1, 2, 3, 4, 5, 6, 7] rfl (r_X8_nextRoom_b72 v0 v1 v2 v3 v4 v5 v6 h e kI kE78)
  · rw [if_neg c9] at e
    refine V_pick [1, 2, 3, 4, 5, 6, 7] rfl ?_
    refine V_iload (pc := 48) (i := 5) dX8_nextRoom_48 rfl ?_
    refine V_iconst (pc := 50) (v := (-1 : Int32)) dX8_nextRoom_50 (by decide) ?_
    refine V_icmp_eq (pc := 51) (tgt := 68) dX8_nextRoom_51 (by decide) (fun c8 => ?_) (fun c8 => ?_)
    · rw [if_pos c8] at e
      exact V_pick [0, 1, 2, 3, 4, 6] rfl (r_X8_nextRoom_b68 v0 v1 v2 v3 v4 v6 h e kI kE78)
    · rw [if_neg c8] at e
      refine V_pick [0, 1, 2, 3, 4, 5, 6] rfl ?_
      refine V_iload_n (pc := 54) (i := 3) dX8_nextRoom_54 rfl rfl ?_
      refine V_aload_n (pc := 55) (i := 1) dX8_nextRoom_55 rfl rfl ?_
      refine V_iload (pc := 56) (i := 5) dX8_nextRoom_56 rfl ?_
      obtain ⟨g4, e⟩ := gd_some e
      obtain ⟨g5, e⟩ := gd_some e
      refine V_iald (pc := 58) dX8_nextRoom_58 (of_decide_eq_true g4) (ix_in g5) ?_
      refine V_aload_n (pc := 59) (i := 1) dX8_nextRoom_59 rfl rfl ?_
      refine V_iload (pc := 60) (i := 6) dX8_nextRoom_60 rfl ?_
      obtain ⟨g6, e⟩ := gd_some e
      refine V_iald (pc := 62) dX8_nextRoom_62 (of_decide_eq_true g4) (ix_in g6) ?_
      refine V_isub (pc := 63) dX8_nextRoom_63 ?_
      refine V_imul (pc := 64) dX8_nextRoom_64 ?_
      refine V_if_le (pc := 65) (tgt := 72) dX8_nextRoom_65 (by decide) (fun c7 => ?_) (fun c7 => ?_)
      · rw [if_pos c7] at e
        exact V_pick [0, 1, 2, 3, 4, 5, 6] rfl (r_X8_nextRoom_b72 v0 v1 v2 v3 v4 v5 v6 h e kI kE78)
      · rw [if_neg c7] at e
        exact V_pick [0, 1, 2, 3, 4, 6] rfl (r_X8_nextRoom_b68 v0 v1 v2 v3 v4 v6 h e kI kE78)
set_option maxRecDepth 100000 in
def F_X8_nextRoom_b40 (v0 : Int32) (v1 : Nat) (v2 : Nat) (v3 : Int32) (v4 : Int32) (v5 : Int32) (v6 : Int32) (h : Hp) : Option ((Int32 × Int32) ⊕ Int32) :=
  F_X8_nextRoom_b41 v0 v1 v2 v3 v4 v5 v6 (0 : Int32) h
set_option maxHeartbeats 4000000 in
set_option maxRecDepth 100000 in
theorem r_X8_nextRoom_b40 (v0 : Int32) (v1 : Nat) (v2 : Nat) (v3 : Int32) (v4 : Int32) (v5 : Int32) (v6 : Int32) (h : Hp) {x : Cx} {o : ((Int32 × Int32) ⊕ Int32)} (e : F_X8_nextRoom_b40 v0 v1 v2 v3 v4 v5 v6 h = some o) (kI : ∀ z, o = .inl z → V M_X8_nextRoom x 0 6 [(0, .int v0), (1, .ref v1), (2, .ref v2), (3, .int v3), (4, .int v4), (5, .int z.1), (6, .int z.2)] [] h 0 0) (kE78 : ∀ z : Int32, o = .inr z → V M_X8_nextRoom x 0 78 [(5, .int z)] [] h 0 0) : V M_X8_nextRoom x 0 40 [(0, .int v0), (1, .ref v1), (2, .ref v2), (3, .int v3), (4, .int v4), (5, .int v5), (6, .int v6)] [] h 0 0 := by
  unfold F_X8_nextRoom_b40 at e
  refine V_iconst (pc := 40) (v := (0 : Int32)) dX8_nextRoom_40 (by decide) ?_
  exact V_pick [0, 1, 2, 3, 4, 5, 6] rfl (r_X8_nextRoom_b41 v0 v1 v2 v3 v4 v5 v6 (0 : Int32) h e kI kE78)
set_option maxRecDepth 100000 in
def F_X8_nextRoom_l6 (v0 : Int32) (v1 : Nat) (v2 : Nat) (v3 : Int32) (v4 : Int32) (v5 : Int32) (v6 : Int32) (h : Hp) : Option ((Int32 × Int32) ⊕ Int32) :=
  (if v4 ≤ v6 then some (.inr v5) else gd (decide (kd h v2 = 13)) <| gd (ix v6 (zl h v2)) <| gd (ix v0 (zl h v2)) <| (if (zI h v2 (v6).toNatClampNeg) = (zI h v2 (v0).toNatClampNeg) then gd (decide (kd h v1 = 13)) <| gd (ix v6 (zl h v1)) <| gd (ix v0 (zl h v1)) <| (if (v3 * ((zI h v1 (v6).toNatClampNeg) - (zI h v1 (v0).toNatClampNeg))) ≤ 0 then F_X8_nextRoom_b40 v0 v1 v2 v3 v4 v5 v6 h else F_X8_nextRoom_b41 v0 v1 v2 v3 v4 v5 v6 (1 : Int32) h) else F_X8_nextRoom_b40 v0 v1 v2 v3 v4 v5 v6 h))
set_option maxHeartbeats 4000000 in
set_option maxRecDepth 100000 in
theorem r_X8_nextRoom_l6 (v0 : Int32) (v1 : Nat) (v2 : Nat) (v3 : Int32) (v4 : Int32) (v5 : Int32) (v6 : Int32) (h : Hp) {x : Cx} {o : ((Int32 × Int32) ⊕ Int32)} (e : F_X8_nextRoom_l6 v0 v1 v2 v3 v4 v5 v6 h = some o) (kI : ∀ z, o = .inl z → V M_X8_nextRoom x 0 6 [(0, .int v0), (1, .ref v1), (2, .ref v2), (3, .int v3), (4, .int v4), (5, .int z.1), (6, .int z.2)] [] h 0 0) (kE78 : ∀ z : Int32, o = .inr z → V M_X8_nextRoom x 0 78 [(5, .int z)] [] h 0 0) : V M_X8_nextRoom x 0 6 [(0, .int v0), (1, .ref v1), (2, .ref v2), (3, .int v3), (4, .int v4), (5, .int v5), (6, .int v6)] [] h 0 0 := by
  unfold F_X8_nextRoom_l6 at e
  refine V_iload (pc := 6) (i := 6) dX8_nextRoom_6 rfl ?_
  refine V_iload (pc := 8) (i := 4) dX8_nextRoom_8 rfl ?_
  refine V_icmp_ge (pc := 10) (tgt := 78) dX8_nextRoom_10 (by decide) (fun c15 => ?_) (fun c15 => ?_)
  · rw [if_pos c15] at e
    cases e
    exact V_pick [5] rfl (kE78 v5 rfl)
  · rw [if_neg c15] at e
    refine V_pick [0, 1, 2, 3, 4, 5, 6] rfl ?_
    refine V_aload_n (pc := 13) (i := 2) dX8_nextRoom_13 rfl rfl ?_
    refine V_iload (pc := 14) (i := 6) dX8_nextRoom_14 rfl ?_
    obtain ⟨g1, e⟩ := gd_some e
    obtain ⟨g2, e⟩ := gd_some e
    refine V_iald (pc := 16) dX8_nextRoom_16 (of_decide_eq_true g1) (ix_in g2) ?_
    refine V_aload_n (pc := 17) (i := 2) dX8_nextRoom_17 rfl rfl ?_
    refine V_iload_n (pc := 18) (i := 0) dX8_nextRoom_18 rfl rfl ?_
    obtain ⟨g3, e⟩ := gd_some e
    refine V_iald (pc := 19) dX8_nextRoom_19 (of_decide_eq_true g1) (ix_in g3) ?_
    refine V_icmp_ne (pc := 20) (tgt := 40) dX8_nextRoom_20 (by decide) (fun c14 => ?_) (fun c14 => ?_)
    · rw [if_neg c14] at e
      exact V_pick [0, 1, 2, 3, 4, 5, 6] rfl (r_X8_nextRoom_b40 v0 v1 v2 v3 v4 v5 v6 h e kI kE78)
    · rw [if_pos c14] at e
      refine V_pick [0, 1, 2, 3, 4, 5, 6] rfl ?_
      refine V_iload_n (pc := 23) (i := 3) dX8_nextRoom_23 rfl rfl ?_
      refine V_aload_n (pc := 24) (i := 1) dX8_nextRoom_24 rfl rfl ?_
      refine V_iload (pc := 25) (i := 6) dX8_nextRoom_25 rfl ?_
      obtain ⟨g10, e⟩ := gd_some e
      obtain ⟨g11, e⟩ := gd_some e
      refine V_iald (pc := 27) dX8_nextRoom_27 (of_decide_eq_true g10) (ix_in g11) ?_
      refine V_aload_n (pc := 28) (i := 1) dX8_nextRoom_28 rfl rfl ?_
      refine V_iload_n (pc := 29) (i := 0) dX8_nextRoom_29 rfl rfl ?_
      obtain ⟨g12, e⟩ := gd_some e
      refine V_iald (pc := 30) dX8_nextRoom_30 (of_decide_eq_true g10) (ix_in g12) ?_
      refine V_isub (pc := 31) dX8_nextRoom_31 ?_
      refine V_imul (pc := 32) dX8_nextRoom_32 ?_
      refine V_if_le (pc := 33) (tgt := 40) dX8_nextRoom_33 (by decide) (fun c13 => ?_) (fun c13 => ?_)
      · rw [if_pos c13] at e
        exact V_pick [0, 1, 2, 3, 4, 5, 6] rfl (r_X8_nextRoom_b40 v0 v1 v2 v3 v4 v5 v6 h e kI kE78)
      · rw [if_neg c13] at e
        refine V_pick [0, 1, 2, 3, 4, 5, 6] rfl ?_
        refine V_iconst (pc := 36) (v := (1 : Int32)) dX8_nextRoom_36 (by decide) ?_
        refine V_goto (pc := 37) (tgt := 41) dX8_nextRoom_37 (by decide) ?_
        exact V_pick [0, 1, 2, 3, 4, 5, 6] rfl (r_X8_nextRoom_b41 v0 v1 v2 v3 v4 v5 v6 (1 : Int32) h e kI kE78)
set_option maxRecDepth 100000 in
def F_X8_nextRoom_b0 (v0 : Int32) (v1 : Nat) (v2 : Nat) (v3 : Int32) (v4 : Int32) (h : Hp) : Option Int32 :=
  ob (iter (fun z : Int32 × Int32 => F_X8_nextRoom_l6 v0 v1 v2 v3 v4 z.1 z.2 h) FU ((-1 : Int32), (0 : Int32))) (fun w16 => some w16)
set_option maxHeartbeats 4000000 in
set_option maxRecDepth 100000 in
theorem r_X8_nextRoom_b0 (v0 : Int32) (v1 : Nat) (v2 : Nat) (v3 : Int32) (v4 : Int32) (h : Hp) {x : Cx} {r : Int32} (e : F_X8_nextRoom_b0 v0 v1 v2 v3 v4 h = some r) (hF : Fin9 M_X8_nextRoom x (some .int) (some (.int r)) h) : V M_X8_nextRoom x 0 0 [(0, .int v0), (1, .ref v1), (2, .ref v2), (3, .int v3), (4, .int v4)] [] h 0 0 := by
  unfold F_X8_nextRoom_b0 at e
  refine V_iconst (pc := 0) (v := (-1 : Int32)) dX8_nextRoom_0 (by decide) ?_
  refine V_istore (pc := 1) (i := 5) (lv' := [(5, .int (-1 : Int32)), (0, .int v0), (1, .ref v1), (2, .ref v2), (3, .int v3), (4, .int v4)]) dX8_nextRoom_1 (by decide) rfl ?_
  refine V_iconst (pc := 3) (v := (0 : Int32)) dX8_nextRoom_3 (by decide) ?_
  refine V_istore (pc := 4) (i := 6) (lv' := [(6, .int (0 : Int32)), (5, .int (-1 : Int32)), (0, .int v0), (1, .ref v1), (2, .ref v2), (3, .int v3), (4, .int v4)]) dX8_nextRoom_4 (by decide) rfl ?_
  refine V_pick [2, 3, 4, 5, 6, 1, 0] rfl ?_
  obtain ⟨y17, g18, e⟩ := ob_some e
  refine iter_V (P := fun z : Int32 × Int32 => V M_X8_nextRoom x 0 6 [(0, .int v0), (1, .ref v1), (2, .ref v2), (3, .int v3), (4, .int v4), (5, .int z.1), (6, .int z.2)] [] h 0 0) (E := fun z : Int32 => V M_X8_nextRoom x 0 78 [(5, .int z)] [] h 0 0) (fun z o e9 k1 k2 => r_X8_nextRoom_l6 v0 v1 v2 v3 v4 z.1 z.2 h e9 (fun z hz9 => k1 z hz9) (fun z hz9 => k2 _ hz9)) _ _ _ g18 ?_
  clear g18
  obtain ⟨w16, rfl⟩ : ∃ q, q = y17 := ⟨_, rfl⟩
  replace e : (some w16) = some r := e
  show V M_X8_nextRoom x 0 78 [(5, .int w16)] [] h 0 0
  refine V_iload (pc := 78) (i := 5) dX8_nextRoom_78 rfl ?_
  cases e
  exact V_iret (pc := 80) dX8_nextRoom_80 hF
def F_X8_nextRoom (v0 : Int32) (v1 : Nat) (v2 : Nat) (v3 : Int32) (v4 : Int32) (h : Hp) : Option Int32 := F_X8_nextRoom_b0 v0 v1 v2 v3 v4 h
theorem c_X8_nextRoom {l : Launch} (v0 : Int32) (v1 : Nat) (v2 : Nat) (v3 : Int32) (v4 : Int32) (h : Hp) {r : Int32} (e : F_X8_nextRoom v0 v1 v2 v3 v4 h = some r) : Ct l yX8_nextRoom M_X8_nextRoom (some .int) 0 [.int v0, .ref v1, .ref v2, .int v3, .int v4] h 0 0 (some (.int r)) h :=
  Ct_of rfl rfl (fun q => by cases q) (Nat.le_of_ble_eq_true rfl) (fun x _ hF => V_pick [0, 1, 2, 3, 4] rfl (r_X8_nextRoom_b0 v0 v1 v2 v3 v4 h e hF))
theorem dX9_init_0 : decode cX9_init 0 = .ok (.aload_n 0, 1) := by decide +kernel
theorem dX9_init_1 : decode cX9_init 1 = .ok (.invokespecial 3, 3) := by decide +kernel
theorem dX9_init_4 : decode cX9_init 4 = .ok (.aload_n 0, 1) := by decide +kernel
theorem dX9_init_5 : decode cX9_init 5 = .ok (.iconst 5, 1) := by decide +kernel
theorem dX9_init_6 : decode cX9_init 6 = .ok (.newarray .int, 2) := by decide +kernel
theorem dX9_init_8 : decode cX9_init 8 = .ok (.putfield 9, 3) := by decide +kernel
theorem dX9_init_11 : decode cX9_init 11 = .ok (.aload_n 0, 1) := by decide +kernel
theorem dX9_init_12 : decode cX9_init 12 = .ok (.bipush 8, 2) := by decide +kernel
theorem dX9_init_14 : decode cX9_init 14 = .ok (.newarray .int, 2) := by decide +kernel
theorem dX9_init_16 : decode cX9_init 16 = .ok (.putfield 15, 3) := by decide +kernel
theorem dX9_init_19 : decode cX9_init 19 = .ok (.aload_n 0, 1) := by decide +kernel
theorem dX9_init_20 : decode cX9_init 20 = .ok (.iconst 1, 1) := by decide +kernel
theorem dX9_init_21 : decode cX9_init 21 = .ok (.putfield 18, 3) := by decide +kernel
theorem dX9_init_24 : decode cX9_init 24 = .ok (.aload_n 0, 1) := by decide +kernel
theorem dX9_init_25 : decode cX9_init 25 = .ok (.iconst 0, 1) := by decide +kernel
theorem dX9_init_26 : decode cX9_init 26 = .ok (.putfield 22, 3) := by decide +kernel
theorem dX9_init_29 : decode cX9_init 29 = .ok (.aload_n 0, 1) := by decide +kernel
theorem dX9_init_30 : decode cX9_init 30 = .ok (.iconst 0, 1) := by decide +kernel
theorem dX9_init_31 : decode cX9_init 31 = .ok (.putfield 26, 3) := by decide +kernel
theorem dX9_init_34 : decode cX9_init 34 = .ok (.aload_n 0, 1) := by decide +kernel
theorem dX9_init_35 : decode cX9_init 35 = .ok (.iconst 0, 1) := by decide +kernel
theorem dX9_init_36 : decode cX9_init 36 = .ok (.putfield 29, 3) := by decide +kernel
theorem dX9_init_39 : decode cX9_init 39 = .ok (.aload_n 0, 1) := by decide +kernel
theorem dX9_init_40 : decode cX9_init 40 = .ok (.iconst 0, 1) := by decide +kernel
theorem dX9_init_41 : decode cX9_init 41 = .ok (.putfield 32, 3) := by decide +kernel
theorem dX9_init_44 : decode cX9_init 44 = .ok (.aload_n 0, 1) := by decide +kernel
theorem dX9_init_45 : decode cX9_init 45 = .ok (.iconst 0, 1) := by decide +kernel
theorem dX9_init_46 : decode cX9_init 46 = .ok (.putfield 35, 3) := by decide +kernel
theorem dX9_init_49 : decode cX9_init 49 = .ok (.aload_n 0, 1) := by decide +kernel
theorem dX9_init_50 : decode cX9_init 50 = .ok (.iconst 0, 1) := by decide +kernel
theorem dX9_init_51 : decode cX9_init 51 = .ok (.putfield 38, 3) := by decide +kernel
theorem dX9_init_54 : decode cX9_init 54 = .ok (.aload_n 0, 1) := by decide +kernel
theorem dX9_init_55 : decode cX9_init 55 = .ok (.iconst 0, 1) := by decide +kernel
theorem dX9_init_56 : decode cX9_init 56 = .ok (.putfield 41, 3) := by decide +kernel
theorem dX9_init_59 : decode cX9_init 59 = .ok (.return_, 1) := by decide +kernel
set_option maxRecDepth 100000 in
def F_X9_init_b0 (v0 : Nat) (h : Hp) : Option (Unit × Hp × Nat × Nat) :=
  ob (some (zN h)) fun q1 => ac 1 ((5 : Int32)).toNatClampNeg <| gd (decide (kd (alloc h 13 ((5 : Int32)).toNatClampNeg) v0 = 8)) <| ob (some (zN (setR (alloc h 13 ((5 : Int32)).toNatClampNeg) v0 0 (some q1)))) fun q6 => ac 1 ((8 : Int32)).toNatClampNeg <| ob (some (setR (alloc (setR (alloc h 13 ((5 : Int32)).toNatClampNeg) v0 0 (some q1)) 13 ((8 : Int32)).toNatClampNeg) v0 1 (some q6))) fun h10 => ob (some (setI (setI (setI (setI (setI h10 v0 2 (1 : Int32)) v0 3 (0 : Int32)) v0 4 (0 : Int32)) v0 5 (0 : Int32)) v0 6 (0 : Int32))) fun h15 => some ((), setI (setI (setI h15 v0 7 (0 : Int32)) v0 8 (0 : Int32)) v0 9 (0 : Int32), 0, 0)
set_option maxHeartbeats 4000000 in
set_option maxRecDepth 100000 in
theorem r_X9_init_b0 (v0 : Nat) (h : Hp) {x : Cx} {r : Unit} {hz : Hp} {c9 s9 : Nat} (e : F_X9_init_b0 v0 h = some (r, hz, c9, s9)) (hF : Fin9 M_X9_init x none none hz) : V M_X9_init x 1 0 [(0, .ref v0)] [] h c9 s9 := by
  unfold F_X9_init_b0 at e
  refine V_aload_n (pc := 0) (i := 0) dX9_init_0 rfl rfl ?_
  refine V_objI (pc := 1) dX9_init_1 wo_X9_3 (by decide) (Nat.le_of_ble_eq_true rfl) ?_
  refine V_aload_n (pc := 4) (i := 0) dX9_init_4 rfl rfl ?_
  refine V_iconst (pc := 5) (v := (5 : Int32)) dX9_init_5 (by decide) ?_
  replace e := ob_some e
  obtain ⟨q1, g2, e⟩ := e
  replace e := ac_some e
  obtain ⟨n3, n4, e, hc9, hs9⟩ := e
  rw [hc9, hs9]
  clear hc9 hs9
  refine V_newIQ (pc := 6) (n := (5 : Int32)) dX9_init_6 wa_int (by decide) (by decide) (q := q1) (bc := n3) (bs := n4) (Option.some.inj g2) ?_
  replace e := gd_some e
  obtain ⟨g5, e⟩ := e
  refine V_putRF (pc := 8) (ci := 8) (k := 0) dX9_init_8 fp_X9_9 rfl (of_decide_eq_true g5) (fun _ => ⟨rfl, rfl⟩) rfl ?_
  refine V_aload_n (pc := 11) (i := 0) dX9_init_11 rfl rfl ?_
  refine V_bipush (pc := 12) (v := (8 : Int32)) dX9_init_12 (by decide) ?_
  replace e := ob_some e
  obtain ⟨q6, g7, e⟩ := e
  replace e := ac_some e
  obtain ⟨n8, n9, e, hc9, hs9⟩ := e
  rw [hc9, hs9]
  clear hc9 hs9
  refine V_newIQ (pc := 14) (n := (8 : Int32)) dX9_init_14 wa_int (by decide) (by decide) (q := q6) (bc := n8) (bs := n9) (Option.some.inj g7) ?_
  refine V_putRF (pc := 16) (ci := 8) (k := 1) dX9_init_16 fp_X9_15 rfl (kd_old (kd_sR (of_decide_eq_true g5)) (by decide)) (fun _ => ⟨rfl, rfl⟩) rfl ?_
  replace e := ob_some e
  obtain ⟨h10, g11, e⟩ := e
  refine V_hp (Option.some.inj g11) ?_
  have k12 : kd h10 q1 = 13 := kd_eq (h := (setR (alloc (setR (alloc h 13 ((5 : Int32)).toNatClampNeg) v0 0 (some q1)) 13 ((8 : Int32)).toNatClampNeg) v0 1 (some q6))) (Option.some.inj g11) (kd_sR (kd_old (kd_sR (kd_newq (Option.some.inj g2))) (by decide)))
  have k13 : kd h10 v0 = 8 := kd_eq (h := (setR (alloc (setR (alloc h 13 ((5 : Int32)).toNatClampNeg) v0 0 (some q1)) 13 ((8 : Int32)).toNatClampNeg) v0 1 (some q6))) (Option.some.inj g11) (kd_sR (kd_old (kd_sR (of_decide_eq_true g5)) (by decide)))
  have k14 : kd h10 q6 = 13 := kd_eq (h := (setR (alloc (setR (alloc h 13 ((5 : Int32)).toNatClampNeg) v0 0 (some q1)) 13 ((8 : Int32)).toNatClampNeg) v0 1 (some q6))) (Option.some.inj g11) (kd_sR (kd_newq (Option.some.inj g7)))
  refine V_aload_n (pc := 19) (i := 0) dX9_init_19 rfl rfl ?_
  refine V_iconst (pc := 20) (v := (1 : Int32)) dX9_init_20 (by decide) ?_
  refine V_putZ (pc := 21) (ci := 8) (k := 2) dX9_init_21 fp_X9_18 rfl k13 (by decide) ?_
  refine V_aload_n (pc := 24) (i := 0) dX9_init_24 rfl rfl ?_
  refine V_iconst (pc := 25) (v := (0 : Int32)) dX9_init_25 (by decide) ?_
  refine V_putI (pc := 26) (ci := 8) (k := 3) dX9_init_26 fp_X9_22 rfl (kd_sI k13) ?_
  refine V_aload_n (pc := 29) (i := 0) dX9_init_29 rfl rfl ?_
  refine V_iconst (pc := 30) (v := (0 : Int32)) dX9_init_30 (by decide) ?_
  refine V_putI (pc := 31) (ci := 8) (k := 4) dX9_init_31 fp_X9_26 rfl (kd_sI (kd_sI k13)) ?_
  refine V_aload_n (pc := 34) (i := 0) dX9_init_34 rfl rfl ?_
  refine V_iconst (pc := 35) (v := (0 : Int32)) dX9_init_35 (by decide) ?_
  refine V_putI (pc := 36) (ci := 8) (k := 5) dX9_init_36 fp_X9_29 rfl (kd_sI (kd_sI (kd_sI k13))) ?_
  refine V_aload_n (pc := 39) (i := 0) dX9_init_39 rfl rfl ?_
  refine V_iconst (pc := 40) (v := (0 : Int32)) dX9_init_40 (by decide) ?_
  refine V_putI (pc := 41) (ci := 8) (k := 6) dX9_init_41 fp_X9_32 rfl (kd_sI (kd_sI (kd_sI (kd_sI k13)))) ?_
  replace e := ob_some e
  obtain ⟨h15, g16, e⟩ := e
  refine V_hp (Option.some.inj g16) ?_
  have k17 : kd h15 q1 = 13 := kd_eq (h := (setI (setI (setI (setI (setI h10 v0 2 (1 : Int32)) v0 3 (0 : Int32)) v0 4 (0 : Int32)) v0 5 (0 : Int32)) v0 6 (0 : Int32))) (Option.some.inj g16) (kd_sI (kd_sI (kd_sI (kd_sI (kd_sI k12)))))
  have k18 : kd h15 v0 = 8 := kd_eq (h := (setI (setI (setI (setI (setI h10 v0 2 (1 : Int32)) v0 3 (0 : Int32)) v0 4 (0 : Int32)) v0 5 (0 : Int32)) v0 6 (0 : Int32))) (Option.some.inj g16) (kd_sI (kd_sI (kd_sI (kd_sI (kd_sI k13)))))
  have k19 : kd h15 q6 = 13 := kd_eq (h := (setI (setI (setI (setI (setI h10 v0 2 (1 : Int32)) v0 3 (0 : Int32)) v0 4 (0 : Int32)) v0 5 (0 : Int32)) v0 6 (0 : Int32))) (Option.some.inj g16) (kd_sI (kd_sI (kd_sI (kd_sI (kd_sI k14)))))
  refine V_aload_n (pc := 44) (i := 0) dX9_init_44 rfl rfl ?_
  refine V_iconst (pc := 45) (v := (0 : Int32)) dX9_init_45 (by decide) ?_
  refine V_putI (pc := 46) (ci := 8) (k := 7) dX9_init_46 fp_X9_35 rfl k18 ?_
  refine V_aload_n (pc := 49) (i := 0) dX9_init_49 rfl rfl ?_
  refine V_iconst (pc := 50) (v := (0 : Int32)) dX9_init_50 (by decide) ?_
  refine V_putI (pc := 51) (ci := 8) (k := 8) dX9_init_51 fp_X9_38 rfl (kd_sI k18) ?_
  refine V_aload_n (pc := 54) (i := 0) dX9_init_54 rfl rfl ?_
  refine V_iconst (pc := 55) (v := (0 : Int32)) dX9_init_55 (by decide) ?_
  refine V_putI (pc := 56) (ci := 8) (k := 9) dX9_init_56 fp_X9_41 rfl (kd_sI (kd_sI k18)) ?_
  cases e
  exact V_vret (pc := 59) dX9_init_59 hF
def F_X9_init (v0 : Nat) (h : Hp) : Option (Unit × Hp × Nat × Nat) := F_X9_init_b0 v0 h
theorem c_X9_init {l : Launch} (v0 : Nat) (h : Hp) {r : Unit} {hz : Hp} {c9 s9 : Nat} (e : F_X9_init v0 h = some (r, hz, c9, s9)) : Ct l yX9_init M_X9_init none 1 [.ref v0] h c9 s9 none hz :=
  Ct_of rfl rfl (fun _ => rfl) (Nat.le_of_ble_eq_true rfl) (fun x _ hF => V_pick [0] rfl (r_X9_init_b0 v0 h e hF))
theorem dX9_start_0 : decode cX9_start 0 = .ok (.aload_n 0, 1) := by decide +kernel
theorem dX9_start_1 : decode cX9_start 1 = .ok (.iconst 1, 1) := by decide +kernel
theorem dX9_start_2 : decode cX9_start 2 = .ok (.putfield 18, 3) := by decide +kernel
theorem dX9_start_5 : decode cX9_start 5 = .ok (.iconst 0, 1) := by decide +kernel
theorem dX9_start_6 : decode cX9_start 6 = .ok (.istore_n 3, 1) := by decide +kernel
theorem dX9_start_7 : decode cX9_start 7 = .ok (.iload_n 3, 1) := by decide +kernel
theorem dX9_start_8 : decode cX9_start 8 = .ok (.iconst 5, 1) := by decide +kernel
theorem dX9_start_9 : decode cX9_start 9 = .ok (.if_icmp .ge 16, 3) := by decide +kernel
theorem dX9_start_12 : decode cX9_start 12 = .ok (.aload_n 0, 1) := by decide +kernel
theorem dX9_start_13 : decode cX9_start 13 = .ok (.getfield 9, 3) := by decide +kernel
theorem dX9_start_16 : decode cX9_start 16 = .ok (.iload_n 3, 1) := by decide +kernel
theorem dX9_start_17 : decode cX9_start 17 = .ok (.iconst (-1), 1) := by decide +kernel
theorem dX9_start_18 : decode cX9_start 18 = .ok (.iastore, 1) := by decide +kernel
theorem dX9_start_19 : decode cX9_start 19 = .ok (.iinc 3 1, 3) := by decide +kernel
theorem dX9_start_22 : decode cX9_start 22 = .ok (.goto (-15), 3) := by decide +kernel
theorem dX9_start_25 : decode cX9_start 25 = .ok (.iconst 0, 1) := by decide +kernel
theorem dX9_start_26 : decode cX9_start 26 = .ok (.istore_n 3, 1) := by decide +kernel
theorem dX9_start_27 : decode cX9_start 27 = .ok (.iload_n 3, 1) := by decide +kernel
theorem dX9_start_28 : decode cX9_start 28 = .ok (.bipush 8, 2) := by decide +kernel
theorem dX9_start_30 : decode cX9_start 30 = .ok (.if_icmp .ge 16, 3) := by decide +kernel
theorem dX9_start_33 : decode cX9_start 33 = .ok (.aload_n 0, 1) := by decide +kernel
theorem dX9_start_34 : decode cX9_start 34 = .ok (.getfield 15, 3) := by decide +kernel
theorem dX9_start_37 : decode cX9_start 37 = .ok (.iload_n 3, 1) := by decide +kernel
theorem dX9_start_38 : decode cX9_start 38 = .ok (.iconst 0, 1) := by decide +kernel
theorem dX9_start_39 : decode cX9_start 39 = .ok (.iastore, 1) := by decide +kernel
theorem dX9_start_40 : decode cX9_start 40 = .ok (.iinc 3 1, 3) := by decide +kernel
theorem dX9_start_43 : decode cX9_start 43 = .ok (.goto (-16), 3) := by decide +kernel
theorem dX9_start_46 : decode cX9_start 46 = .ok (.aload_n 0, 1) := by decide +kernel
theorem dX9_start_47 : decode cX9_start 47 = .ok (.aload_n 1, 1) := by decide +kernel
theorem dX9_start_48 : decode cX9_start 48 = .ok (.aload_n 1, 1) := by decide +kernel
theorem dX9_start_49 : decode cX9_start 49 = .ok (.getfield 44, 3) := by decide +kernel
theorem dX9_start_52 : decode cX9_start 52 = .ok (.iload_n 2, 1) := by decide +kernel
theorem dX9_start_53 : decode cX9_start 53 = .ok (.invokevirtual 49, 3) := by decide +kernel
theorem dX9_start_56 : decode cX9_start 56 = .ok (.putfield 22, 3) := by decide +kernel
theorem dX9_start_59 : decode cX9_start 59 = .ok (.aload_n 0, 1) := by decide +kernel
theorem dX9_start_60 : decode cX9_start 60 = .ok (.aload_n 1, 1) := by decide +kernel
theorem dX9_start_61 : decode cX9_start 61 = .ok (.aload_n 1, 1) := by decide +kernel
theorem dX9_start_62 : decode cX9_start 62 = .ok (.getfield 53, 3) := by decide +kernel
theorem dX9_start_65 : decode cX9_start 65 = .ok (.iload_n 2, 1) := by decide +kernel
theorem dX9_start_66 : decode cX9_start 66 = .ok (.invokevirtual 49, 3) := by decide +kernel
theorem dX9_start_69 : decode cX9_start 69 = .ok (.putfield 26, 3) := by decide +kernel
theorem dX9_start_72 : decode cX9_start 72 = .ok (.aload_n 0, 1) := by decide +kernel
theorem dX9_start_73 : decode cX9_start 73 = .ok (.aload_n 1, 1) := by decide +kernel
theorem dX9_start_74 : decode cX9_start 74 = .ok (.getfield 56, 3) := by decide +kernel
theorem dX9_start_77 : decode cX9_start 77 = .ok (.aload_n 1, 1) := by decide +kernel
theorem dX9_start_78 : decode cX9_start 78 = .ok (.getfield 44, 3) := by decide +kernel
theorem dX9_start_81 : decode cX9_start 81 = .ok (.invokevirtual 60, 3) := by decide +kernel
theorem dX9_start_84 : decode cX9_start 84 = .ok (.putfield 29, 3) := by decide +kernel
theorem dX9_start_87 : decode cX9_start 87 = .ok (.aload_n 0, 1) := by decide +kernel
theorem dX9_start_88 : decode cX9_start 88 = .ok (.aload_n 1, 1) := by decide +kernel
theorem dX9_start_89 : decode cX9_start 89 = .ok (.getfield 56, 3) := by decide +kernel
theorem dX9_start_92 : decode cX9_start 92 = .ok (.aload_n 1, 1) := by decide +kernel
theorem dX9_start_93 : decode cX9_start 93 = .ok (.getfield 44, 3) := by decide +kernel
theorem dX9_start_96 : decode cX9_start 96 = .ok (.invokevirtual 66, 3) := by decide +kernel
theorem dX9_start_99 : decode cX9_start 99 = .ok (.putfield 32, 3) := by decide +kernel
theorem dX9_start_102 : decode cX9_start 102 = .ok (.aload_n 0, 1) := by decide +kernel
theorem dX9_start_103 : decode cX9_start 103 = .ok (.aload_n 1, 1) := by decide +kernel
theorem dX9_start_104 : decode cX9_start 104 = .ok (.getfield 56, 3) := by decide +kernel
theorem dX9_start_107 : decode cX9_start 107 = .ok (.aload_n 1, 1) := by decide +kernel
theorem dX9_start_108 : decode cX9_start 108 = .ok (.getfield 53, 3) := by decide +kernel
theorem dX9_start_111 : decode cX9_start 111 = .ok (.invokevirtual 60, 3) := by decide +kernel
theorem dX9_start_114 : decode cX9_start 114 = .ok (.putfield 35, 3) := by decide +kernel
theorem dX9_start_117 : decode cX9_start 117 = .ok (.aload_n 0, 1) := by decide +kernel
theorem dX9_start_118 : decode cX9_start 118 = .ok (.aload_n 1, 1) := by decide +kernel
theorem dX9_start_119 : decode cX9_start 119 = .ok (.getfield 56, 3) := by decide +kernel
theorem dX9_start_122 : decode cX9_start 122 = .ok (.aload_n 1, 1) := by decide +kernel
theorem dX9_start_123 : decode cX9_start 123 = .ok (.getfield 53, 3) := by decide +kernel
theorem dX9_start_126 : decode cX9_start 126 = .ok (.invokevirtual 66, 3) := by decide +kernel
theorem dX9_start_129 : decode cX9_start 129 = .ok (.putfield 38, 3) := by decide +kernel
theorem dX9_start_132 : decode cX9_start 132 = .ok (.aload_n 0, 1) := by decide +kernel
theorem dX9_start_133 : decode cX9_start 133 = .ok (.aload_n 1, 1) := by decide +kernel
theorem dX9_start_134 : decode cX9_start 134 = .ok (.getfield 69, 3) := by decide +kernel
theorem dX9_start_137 : decode cX9_start 137 = .ok (.putfield 41, 3) := by decide +kernel
theorem dX9_start_140 : decode cX9_start 140 = .ok (.return_, 1) := by decide +kernel
set_option maxRecDepth 100000 in
def F_X9_start_l7 (v0 : Nat) (v1 : Nat) (v2 : Int32) (v3 : Int32) (h : Hp) : Option ((Int32 × Hp) ⊕ Hp) :=
  (if (5 : Int32) ≤ v3 then some (.inr h) else gd (decide (kd h v0 = 8)) <| ob (zR h v0 0) fun q3 => gd (decide (kd h q3 = 13)) <| gd (ix v3 (zl h q3)) <| some (.inl (v3 + (1 : Int32), setI h q3 (v3).toNatClampNeg (-1 : Int32))))
set_option maxHeartbeats 4000000 in
set_option maxRecDepth 100000 in
theorem r_X9_start_l7 (v0 : Nat) (v1 : Nat) (v2 : Int32) (v3 : Int32) (h : Hp) {x : Cx} {o : ((Int32 × Hp) ⊕ Hp)} (e : F_X9_start_l7 v0 v1 v2 v3 h = some o) (kI : ∀ z, o = .inl z → V M_X9_start x 1 7 [(0, .ref v0), (1, .ref v1), (2, .int v2), (3, .int z.1)] [] z.2 0 0) (kE25 : ∀ z : Hp, o = .inr z → V M_X9_start x 1 25 [(0, .ref v0), (1, .ref v1), (2, .int v2)] [] z 0 0) : V M_X9_start x 1 7 [(0, .ref v0), (1, .ref v1), (2, .int v2), (3, .int v3)] [] h 0 0 := by
  unfold F_X9_start_l7 at e
  refine V_iload_n (pc := 7) (i := 3) dX9_start_7 rfl rfl ?_
  refine V_iconst (pc := 8) (v := (5 : Int32)) dX9_start_8 (by decide) ?_
  refine V_icmp_ge (pc := 9) (tgt := 25) dX9_start_9 (by decide) (fun c7 => ?_) (fun c7 => ?_)
  · rw [if_pos c7] at e
    cases e
    exact V_pick [0, 1, 2] rfl (kE25 h rfl)
  · rw [if_neg c7] at e
    refine V_pick [0, 1, 2, 3] rfl ?_
    refine V_aload_n (pc := 12) (i := 0) dX9_start_12 rfl rfl ?_
    obtain ⟨g2, e⟩ := gd_some e
    obtain ⟨q3, g4, e⟩ := ob_some e
    refine V_getR (pc := 13) (ci := 8) (k := 0) (b := q3) dX9_start_13 fl_X9_9 rfl (of_decide_eq_true g2) g4 ?_
    refine V_iload_n (pc := 16) (i := 3) dX9_start_16 rfl rfl ?_
    refine V_iconst (pc := 17) (v := (-1 : Int32)) dX9_start_17 (by decide) ?_
    obtain ⟨g5, e⟩ := gd_some e
    obtain ⟨g6, e⟩ := gd_some e
    refine V_iast (pc := 18) dX9_start_18 (of_decide_eq_true g5) (ix_in g6) ?_
    refine V_iinc (pc := 19) (i := 3) (u := v3 + (1 : Int32)) (lv' := [(3, .int (v3 + (1 : Int32))), (0, .ref v0), (1, .ref v1), (2, .int v2)]) dX9_start_19 rfl rfl (by decide) rfl ?_
    refine V_goto (pc := 22) (tgt := 7) dX9_start_22 (by decide) ?_
    cases e
    exact V_pick [1, 2, 3, 0] rfl (kI (v3 + (1 : Int32), setI h q3 (v3).toNatClampNeg (-1 : Int32)) rfl)
set_option maxRecDepth 100000 in
def F_X9_start_l27 (v0 : Nat) (v1 : Nat) (v2 : Int32) (v3 : Int32) (h : Hp) : Option ((Int32 × Hp) ⊕ Hp) :=
  (if (8 : Int32) ≤ v3 then some (.inr h) else gd (decide (kd h v0 = 8)) <| ob (zR h v0 1) fun q10 => gd (decide (kd h q10 = 13)) <| gd (ix v3 (zl h q10)) <| some (.inl (v3 + (1 : Int32), setI h q10 (v3).toNatClampNeg (0 : Int32))))
set_option maxHeartbeats 4000000 in
set_option maxRecDepth 100000 in
theorem r_X9_start_l27 (v0 : Nat) (v1 : Nat) (v2 : Int32) (v3 : Int32) (h : Hp) {x : Cx} {o : ((Int32 × Hp) ⊕ Hp)} (e : F_X9_start_l27 v0 v1 v2 v3 h = some o) (kI : ∀ z, o = .inl z → V M_X9_start x 1 27 [(0, .ref v0), (1, .ref v1), (2, .int v2), (3, .int z.1)] [] z.2 0 0) (kE46 : ∀ z : Hp, o = .inr z → V M_X9_start x 1 46 [(0, .ref v0), (1, .ref v1), (2, .int v2)] [] z 0 0) : V M_X9_start x 1 27 [(0, .ref v0), (1, .ref v1), (2, .int v2), (3, .int v3)] [] h 0 0 := by
  unfold F_X9_start_l27 at e
  refine V_iload_n (pc := 27) (i := 3) dX9_start_27 rfl rfl ?_
  refine V_bipush (pc := 28) (v := (8 : Int32)) dX9_start_28 (by decide) ?_
  refine V_icmp_ge (pc := 30) (tgt := 46) dX9_start_30 (by decide) (fun c14 => ?_) (fun c14 => ?_)
  · rw [if_pos c14] at e
    cases e
    exact V_pick [0, 1, 2] rfl (kE46 h rfl)
  · rw [if_neg c14] at e
    refine V_pick [0, 1, 2, 3] rfl ?_
    refine V_aload_n (pc := 33) (i := 0) dX9_start_33 rfl rfl ?_
    obtain ⟨g9, e⟩ := gd_some e
    obtain ⟨q10, g11, e⟩ := ob_some e
    refine V_getR (pc := 34) (ci := 8) (k := 1) (b := q10) dX9_start_34 fl_X9_15 rfl (of_decide_eq_true g9) g11 ?_
    refine V_iload_n (pc := 37) (i := 3) dX9_start_37 rfl rfl ?_
    refine V_iconst (pc := 38) (v := (0 : Int32)) dX9_start_38 (by decide) ?_
    obtain ⟨g12, e⟩ := gd_some e
    obtain ⟨g13, e⟩ := gd_some e
    refine V_iast (pc := 39) dX9_start_39 (of_decide_eq_true g12) (ix_in g13) ?_
    refine V_iinc (pc := 40) (i := 3) (u := v3 + (1 : Int32)) (lv' := [(3, .int (v3 + (1 : Int32))), (0, .ref v0), (1, .ref v1), (2, .int v2)]) dX9_start_40 rfl rfl (by decide) rfl ?_
    refine V_goto (pc := 43) (tgt := 27) dX9_start_43 (by decide) ?_
    cases e
    exact V_pick [1, 2, 3, 0] rfl (kI (v3 + (1 : Int32), setI h q10 (v3).toNatClampNeg (0 : Int32)) rfl)
set_option maxRecDepth 100000 in
def F_X9_start_b0 (v0 : Nat) (v1 : Nat) (v2 : Int32) (h : Hp) : Option (Unit × Hp) :=
  gd (decide (kd h v0 = 8)) <| ob (iter (fun z : Int32 × Hp => F_X9_start_l7 v0 v1 v2 z.1 z.2) FU ((0 : Int32), setI h v0 2 (1 : Int32))) (fun h8 => ob (iter (fun z : Int32 × Hp => F_X9_start_l27 v0 v1 v2 z.1 z.2) FU ((0 : Int32), h8)) (fun h15 => gd (decide (kd h15 v1 = 2)) <| ob (zR h15 v1 1) fun q17 => ob (F_X2_netOfThings v1 q17 v2 h15) fun r20 => gd (decide (kd h15 v0 = 8)) <| ob (zR (setI h15 v0 3 r20) v1 2) fun q22 => ob (F_X2_netOfThings v1 q22 v2 (setI h15 v0 3 r20)) fun r25 => ob (zR (setI (setI h15 v0 3 r20) v0 4 r25) v1 9) fun q26 => ob (zR (setI (setI h15 v0 3 r20) v0 4 r25) v1 1) fun q28 => ob (F_X8_lowest q26 q28 (setI (setI h15 v0 3 r20) v0 4 r25)) fun r31 => gd (decide (kd (setI (setI h15 v0 3 r20) v0 4 r25) q26 = 7)) <| ob (zR (setI (setI (setI h15 v0 3 r20) v0 4 r25) v0 5 r31) v1 9) fun q33 => ob (zR (setI (setI (setI h15 v0 3 r20) v0 4 r25) v0 5 r31) v1 1) fun q35 => ob (F_X8_highest q33 q35 (setI (setI (setI h15 v0 3 r20) v0 4 r25) v0 5 r31)) fun r38 => gd (decide (kd (setI (setI (setI h15 v0 3 r20) v0 4 r25) v0 5 r31) q33 = 7)) <| ob (zR (setI (setI (setI (setI h15 v0 3 r20) v0 4 r25) v0 5 r31) v0 6 r38) v1 9) fun q40 => ob (zR (setI (setI (setI (setI h15 v0 3 r20) v0 4 r25) v0 5 r31) v0 6 r38) v1 2) fun q42 => ob (F_X8_lowest q40 q42 (setI (setI (setI (setI h15 v0 3 r20) v0 4 r25) v0 5 r31) v0 6 r38)) fun r45 => gd (decide (kd (setI (setI (setI (setI h15 v0 3 r20) v0 4 r25) v0 5 r31) v0 6 r38) q40 = 7)) <| ob (zR (setI (setI (setI (setI (setI h15 v0 3 r20) v0 4 r25) v0 5 r31) v0 6 r38) v0 7 r45) v1 9) fun q47 => ob (zR (setI (setI (setI (setI (setI h15 v0 3 r20) v0 4 r25) v0 5 r31) v0 6 r38) v0 7 r45) v1 2) fun q49 => ob (F_X8_highest q47 q49 (setI (setI (setI (setI (setI h15 v0 3 r20) v0 4 r25) v0 5 r31) v0 6 r38) v0 7 r45)) fun r52 => gd (decide (kd (setI (setI (setI (setI (setI h15 v0 3 r20) v0 4 r25) v0 5 r31) v0 6 r38) v0 7 r45) q47 = 7)) <| ob (some (setI (setI (setI (setI (setI (setI (setI h15 v0 3 r20) v0 4 r25) v0 5 r31) v0 6 r38) v0 7 r45) v0 8 r52) v0 9 (zI (setI (setI (setI (setI (setI (setI h15 v0 3 r20) v0 4 r25) v0 5 r31) v0 6 r38) v0 7 r45) v0 8 r52) v1 12))) fun h54 => some ((), h54)))
set_option maxHeartbeats 4000000 in
set_option maxRecDepth 100000 in
theorem r_X9_start_b0 (v0 : Nat) (v1 : Nat) (v2 : Int32) (h : Hp) {x : Cx} {r : Unit} {hz : Hp} (e : F_X9_start_b0 v0 v1 v2 h = some (r, hz)) (hF : Fin9 M_X9_start x none none hz) : V M_X9_start x 1 0 [(0, .ref v0), (1, .ref v1), (2, .int v2)] [] h 0 0 := by
  unfold F_X9_start_b0 at e
  refine V_aload_n (pc := 0) (i := 0) dX9_start_0 rfl rfl ?_
  refine V_iconst (pc := 1) (v := (1 : Int32)) dX9_start_1 (by decide) ?_
  obtain ⟨g1, e⟩ := gd_some e
  refine V_putZ (pc := 2) (ci := 8) (k := 2) dX9_start_2 fp_X9_18 rfl (of_decide_eq_true g1) (by decide) ?_
  refine V_iconst (pc := 5) (v := (0 : Int32)) dX9_start_5 (by decide) ?_
  refine V_istore_n (pc := 6) (i := 3) (lv' := [(3, .int (0 : Int32)), (0, .ref v0), (1, .ref v1), (2, .int v2)]) dX9_start_6 rfl (by decide) rfl ?_
  refine V_pick [1, 2, 3, 0] rfl ?_
  obtain ⟨y64, g65, e⟩ := ob_some e
  refine iter_V (P := fun z : Int32 × Hp => V M_X9_start x 1 7 [(0, .ref v0), (1, .ref v1), (2, .int v2), (3, .int z.1)] [] z.2 0 0) (E := fun z : Hp => V M_X9_start x 1 25 [(0, .ref v0), (1, .ref v1), (2, .int v2)] [] z 0 0) (fun z o e9 k1 k2 => r_X9_start_l7 v0 v1 v2 z.1 z.2 e9 (fun z hz9 => k1 z hz9) (fun z hz9 => k2 _ hz9)) _ _ _ g65 ?_
  clear g65
  obtain ⟨h8, rfl⟩ : ∃ q, q = y64 := ⟨_, rfl⟩
  replace e : (ob (iter (fun z : Int32 × Hp => F_X9_start_l27 v0 v1 v2 z.1 z.2) FU ((0 : Int32), h8)) (fun h15 => gd (decide (kd h15 v1 = 2)) <| ob (zR h15 v1 1) fun q17 => ob (F_X2_netOfThings v1 q17 v2 h15) fun r20 => gd (decide (kd h15 v0 = 8)) <| ob (zR (setI h15 v0 3 r20) v1 2) fun q22 => ob (F_X2_netOfThings v1 q22 v2 (setI h15 v0 3 r20)) fun r25 => ob (zR (setI (setI h15 v0 3 r20) v0 4 r25) v1 9) fun q26 => ob (zR (setI (setI h15 v0 3 r20) v0 4 r25) v1 1) fun q28 => ob (F_X8_lowest q26 q28 (setI (setI h15 v0 3 r20) v0 4 r25)) fun r31 => gd (decide (kd (setI (setI h15 v0 3 r20) v0 4 r25) q26 = 7)) <| ob (zR (setI (setI (setI h15 v0 3 r20) v0 4 r25) v0 5 r31) v1 9) fun q33 => ob (zR (setI (setI (setI h15 v0 3 r20) v0 4 r25) v0 5 r31) v1 1) fun q35 => ob (F_X8_highest q33 q35 (setI (setI (setI h15 v0 3 r20) v0 4 r25) v0 5 r31)) fun r38 => gd (decide (kd (setI (setI (setI h15 v0 3 r20) v0 4 r25) v0 5 r31) q33 = 7)) <| ob (zR (setI (setI (setI (setI h15 v0 3 r20) v0 4 r25) v0 5 r31) v0 6 r38) v1 9) fun q40 => ob (zR (setI (setI (setI (setI h15 v0 3 r20) v0 4 r25) v0 5 r31) v0 6 r38) v1 2) fun q42 => ob (F_X8_lowest q40 q42 (setI (setI (setI (setI h15 v0 3 r20) v0 4 r25) v0 5 r31) v0 6 r38)) fun r45 => gd (decide (kd (setI (setI (setI (setI h15 v0 3 r20) v0 4 r25) v0 5 r31) v0 6 r38) q40 = 7)) <| ob (zR (setI (setI (setI (setI (setI h15 v0 3 r20) v0 4 r25) v0 5 r31) v0 6 r38) v0 7 r45) v1 9) fun q47 => ob (zR (setI (setI (setI (setI (setI h15 v0 3 r20) v0 4 r25) v0 5 r31) v0 6 r38) v0 7 r45) v1 2) fun q49 => ob (F_X8_highest q47 q49 (setI (setI (setI (setI (setI h15 v0 3 r20) v0 4 r25) v0 5 r31) v0 6 r38) v0 7 r45)) fun r52 => gd (decide (kd (setI (setI (setI (setI (setI h15 v0 3 r20) v0 4 r25) v0 5 r31) v0 6 r38) v0 7 r45) q47 = 7)) <| ob (some (setI (setI (setI (setI (setI (setI (setI h15 v0 3 r20) v0 4 r25) v0 5 r31) v0 6 r38) v0 7 r45) v0 8 r52) v0 9 (zI (setI (setI (setI (setI (setI (setI h15 v0 3 r20) v0 4 r25) v0 5 r31) v0 6 r38) v0 7 r45) v0 8 r52) v1 12))) fun h54 => some ((), h54))) = some (r, hz) := e
  show V M_X9_start x 1 25 [(0, .ref v0), (1, .ref v1), (2, .int v2)] [] h8 0 0
  refine V_iconst (pc := 25) (v := (0 : Int32)) dX9_start_25 (by decide) ?_
  refine V_istore_n (pc := 26) (i := 3) (lv' := [(3, .int (0 : Int32)), (0, .ref v0), (1, .ref v1), (2, .int v2)]) dX9_start_26 rfl (by decide) rfl ?_
  refine V_pick [1, 2, 3, 0] rfl ?_
  obtain ⟨y62, g63, e⟩ := ob_some e
  refine iter_V (P := fun z : Int32 × Hp => V M_X9_start x 1 27 [(0, .ref v0), (1, .ref v1), (2, .int v2), (3, .int z.1)] [] z.2 0 0) (E := fun z : Hp => V M_X9_start x 1 46 [(0, .ref v0), (1, .ref v1), (2, .int v2)] [] z 0 0) (fun z o e9 k1 k2 => r_X9_start_l27 v0 v1 v2 z.1 z.2 e9 (fun z hz9 => k1 z hz9) (fun z hz9 => k2 _ hz9)) _ _ _ g63 ?_
  clear g63
  obtain ⟨h15, rfl⟩ : ∃ q, q = y62 := ⟨_, rfl⟩
  replace e : (gd (decide (kd h15 v1 = 2)) <| ob (zR h15 v1 1) fun q17 => ob (F_X2_netOfThings v1 q17 v2 h15) fun r20 => gd (decide (kd h15 v0 = 8)) <| ob (zR (setI h15 v0 3 r20) v1 2) fun q22 => ob (F_X2_netOfThings v1 q22 v2 (setI h15 v0 3 r20)) fun r25 => ob (zR (setI (setI h15 v0 3 r20) v0 4 r25) v1 9) fun q26 => ob (zR (setI (setI h15 v0 3 r20) v0 4 r25) v1 1) fun q28 => ob (F_X8_lowest q26 q28 (setI (setI h15 v0 3 r20) v0 4 r25)) fun r31 => gd (decide (kd (setI (setI h15 v0 3 r20) v0 4 r25) q26 = 7)) <| ob (zR (setI (setI (setI h15 v0 3 r20) v0 4 r25) v0 5 r31) v1 9) fun q33 => ob (zR (setI (setI (setI h15 v0 3 r20) v0 4 r25) v0 5 r31) v1 1) fun q35 => ob (F_X8_highest q33 q35 (setI (setI (setI h15 v0 3 r20) v0 4 r25) v0 5 r31)) fun r38 => gd (decide (kd (setI (setI (setI h15 v0 3 r20) v0 4 r25) v0 5 r31) q33 = 7)) <| ob (zR (setI (setI (setI (setI h15 v0 3 r20) v0 4 r25) v0 5 r31) v0 6 r38) v1 9) fun q40 => ob (zR (setI (setI (setI (setI h15 v0 3 r20) v0 4 r25) v0 5 r31) v0 6 r38) v1 2) fun q42 => ob (F_X8_lowest q40 q42 (setI (setI (setI (setI h15 v0 3 r20) v0 4 r25) v0 5 r31) v0 6 r38)) fun r45 => gd (decide (kd (setI (setI (setI (setI h15 v0 3 r20) v0 4 r25) v0 5 r31) v0 6 r38) q40 = 7)) <| ob (zR (setI (setI (setI (setI (setI h15 v0 3 r20) v0 4 r25) v0 5 r31) v0 6 r38) v0 7 r45) v1 9) fun q47 => ob (zR (setI (setI (setI (setI (setI h15 v0 3 r20) v0 4 r25) v0 5 r31) v0 6 r38) v0 7 r45) v1 2) fun q49 => ob (F_X8_highest q47 q49 (setI (setI (setI (setI (setI h15 v0 3 r20) v0 4 r25) v0 5 r31) v0 6 r38) v0 7 r45)) fun r52 => gd (decide (kd (setI (setI (setI (setI (setI h15 v0 3 r20) v0 4 r25) v0 5 r31) v0 6 r38) v0 7 r45) q47 = 7)) <| ob (some (setI (setI (setI (setI (setI (setI (setI h15 v0 3 r20) v0 4 r25) v0 5 r31) v0 6 r38) v0 7 r45) v0 8 r52) v0 9 (zI (setI (setI (setI (setI (setI (setI h15 v0 3 r20) v0 4 r25) v0 5 r31) v0 6 r38) v0 7 r45) v0 8 r52) v1 12))) fun h54 => some ((), h54)) = some (r, hz) := e
  show V M_X9_start x 1 46 [(0, .ref v0), (1, .ref v1), (2, .int v2)] [] h15 0 0
  refine V_aload_n (pc := 46) (i := 0) dX9_start_46 rfl rfl ?_
  refine V_aload_n (pc := 47) (i := 1) dX9_start_47 rfl rfl ?_
  refine V_aload_n (pc := 48) (i := 1) dX9_start_48 rfl rfl ?_
  obtain ⟨g16, e⟩ := gd_some e
  obtain ⟨q17, g18, e⟩ := ob_some e
  refine V_getR (pc := 49) (ci := 2) (k := 1) (b := q17) dX9_start_49 fl_X9_44 rfl (of_decide_eq_true g16) g18 ?_
  refine V_iload_n (pc := 52) (i := 2) dX9_start_52 rfl rfl ?_
  obtain ⟨r20, g19, e⟩ := ob_some e
  refine V_callV (pc := 53) (bc := 0) (bs := 0) (mc := 0) (ms := 0) (st := [.ref v0]) (As := [.ref q17, .int v2]) (a := v1) (h' := h15) (r := some (.int r20)) dX9_start_53 ml_X9_49 (ci := 2) rfl (of_decide_eq_true g16) rfl rfl (Nat.le_of_ble_eq_true rfl) (d' := 0) (by decide) (c_X2_netOfThings (l := x.2.1) v1 q17 v2 h15 g19) ?_
  obtain ⟨g21, e⟩ := gd_some e
  refine V_putI (pc := 56) (ci := 8) (k := 3) dX9_start_56 fp_X9_22 rfl (of_decide_eq_true g21) ?_
  refine V_aload_n (pc := 59) (i := 0) dX9_start_59 rfl rfl ?_
  refine V_aload_n (pc := 60) (i := 1) dX9_start_60 rfl rfl ?_
  refine V_aload_n (pc := 61) (i := 1) dX9_start_61 rfl rfl ?_
  obtain ⟨q22, g23, e⟩ := ob_some e
  refine V_getR (pc := 62) (ci := 2) (k := 2) (b := q22) dX9_start_62 fl_X9_53 rfl (kd_sI (of_decide_eq_true g16)) g23 ?_
  refine V_iload_n (pc := 65) (i := 2) dX9_start_65 rfl rfl ?_
  obtain ⟨r25, g24, e⟩ := ob_some e
  refine V_callV (pc := 66) (bc := 0) (bs := 0) (mc := 0) (ms := 0) (st := [.ref v0]) (As := [.ref q22, .int v2]) (a := v1) (h' := (setI h15 v0 3 r20)) (r := some (.int r25)) dX9_start_66 ml_X9_49 (ci := 2) rfl (kd_sI (of_decide_eq_true g16)) rfl rfl (Nat.le_of_ble_eq_true rfl) (d' := 0) (by decide) (c_X2_netOfThings (l := x.2.1) v1 q22 v2 (setI h15 v0 3 r20) g24) ?_
  refine V_putI (pc := 69) (ci := 8) (k := 4) dX9_start_69 fp_X9_26 rfl (kd_sI (of_decide_eq_true g21)) ?_
  refine V_aload_n (pc := 72) (i := 0) dX9_start_72 rfl rfl ?_
  refine V_aload_n (pc := 73) (i := 1) dX9_start_73 rfl rfl ?_
  obtain ⟨q26, g27, e⟩ := ob_some e
  refine V_getR (pc := 74) (ci := 2) (k := 9) (b := q26) dX9_start_74 fl_X9_56 rfl (kd_sI (kd_sI (of_decide_eq_true g16))) g27 ?_
  refine V_aload_n (pc := 77) (i := 1) dX9_start_77 rfl rfl ?_
  obtain ⟨q28, g29, e⟩ := ob_some e
  refine V_getR (pc := 78) (ci := 2) (k := 1) (b := q28) dX9_start_78 fl_X9_44 rfl (kd_sI (kd_sI (of_decide_eq_true g16))) g29 ?_
  obtain ⟨r31, g30, e⟩ := ob_some e
  obtain ⟨g32, e⟩ := gd_some e
  refine V_callV (pc := 81) (bc := 0) (bs := 0) (mc := 0) (ms := 0) (st := [.ref v0]) (As := [.ref q28]) (a := q26) (h' := (setI (setI h15 v0 3 r20) v0 4 r25)) (r := some (.int r31)) dX9_start_81 ml_X9_60 (ci := 7) rfl (of_decide_eq_true g32) rfl rfl (Nat.le_of_ble_eq_true rfl) (d' := 0) (by decide) (c_X8_lowest (l := x.2.1) q26 q28 (setI (setI h15 v0 3 r20) v0 4 r25) g30) ?_
  refine V_putI (pc := 84) (ci := 8) (k := 5) dX9_start_84 fp_X9_29 rfl (kd_sI (kd_sI (of_decide_eq_true g21))) ?_
  refine V_aload_n (pc := 87) (i := 0) dX9_start_87 rfl rfl ?_
  refine V_aload_n (pc := 88) (i := 1) dX9_start_88 rfl rfl ?_
  obtain ⟨q33, g34, e⟩ := ob_some e
  refine V_getR (pc := 89) (ci := 2) (k := 9) (b := q33) dX9_start_89 fl_X9_56 rfl (kd_sI (kd_sI (kd_sI (of_decide_eq_true g16)))) g34 ?_
  refine V_aload_n (pc := 92) (i := 1) dX9_start_92 rfl rfl ?_
  obtain ⟨q35, g36, e⟩ := ob_some e
  refine V_getR (pc := 93) (ci := 2) (k := 1) (b := q35) dX9_start_93 fl_X9_44 rfl (kd_sI (kd_sI (kd_sI (of_decide_eq_true g16)))) g36 ?_
  obtain ⟨r38, g37, e⟩ := ob_some e
  obtain ⟨g39, e⟩ := gd_some e
  refine V_callV (pc := 96) (bc := 0) (bs := 0) (mc := 0) (ms := 0) (st := [.ref v0]) (As := [.ref q35]) (a := q33) (h' := (setI (setI (setI h15 v0 3 r20) v0 4 r25) v0 5 r31)) (r := some (.int r38)) dX9_start_96 ml_X9_66 (ci := 7) rfl (of_decide_eq_true g39) rfl rfl (Nat.le_of_ble_eq_true rfl) (d' := 0) (by decide) (c_X8_highest (l := x.2.1) q33 q35 (setI (setI (setI h15 v0 3 r20) v0 4 r25) v0 5 r31) g37) ?_
  refine V_putI (pc := 99) (ci := 8) (k := 6) dX9_start_99 fp_X9_32 rfl (kd_sI (kd_sI (kd_sI (of_decide_eq_true g21)))) ?_
  refine V_aload_n (pc := 102) (i := 0) dX9_start_102 rfl rfl ?_
  refine V_aload_n (pc := 103) (i := 1) dX9_start_103 rfl rfl ?_
  obtain ⟨q40, g41, e⟩ := ob_some e
  refine V_getR (pc := 104) (ci := 2) (k := 9) (b := q40) dX9_start_104 fl_X9_56 rfl (kd_sI (kd_sI (kd_sI (kd_sI (of_decide_eq_true g16))))) g41 ?_
  refine V_aload_n (pc := 107) (i := 1) dX9_start_107 rfl rfl ?_
  obtain ⟨q42, g43, e⟩ := ob_some e
  refine V_getR (pc := 108) (ci := 2) (k := 2) (b := q42) dX9_start_108 fl_X9_53 rfl (kd_sI (kd_sI (kd_sI (kd_sI (of_decide_eq_true g16))))) g43 ?_
  obtain ⟨r45, g44, e⟩ := ob_some e
  obtain ⟨g46, e⟩ := gd_some e
  refine V_callV (pc := 111) (bc := 0) (bs := 0) (mc := 0) (ms := 0) (st := [.ref v0]) (As := [.ref q42]) (a := q40) (h' := (setI (setI (setI (setI h15 v0 3 r20) v0 4 r25) v0 5 r31) v0 6 r38)) (r := some (.int r45)) dX9_start_111 ml_X9_60 (ci := 7) rfl (of_decide_eq_true g46) rfl rfl (Nat.le_of_ble_eq_true rfl) (d' := 0) (by decide) (c_X8_lowest (l := x.2.1) q40 q42 (setI (setI (setI (setI h15 v0 3 r20) v0 4 r25) v0 5 r31) v0 6 r38) g44) ?_
  refine V_putI (pc := 114) (ci := 8) (k := 7) dX9_start_114 fp_X9_35 rfl (kd_sI (kd_sI (kd_sI (kd_sI (of_decide_eq_true g21))))) ?_
  refine V_aload_n (pc := 117) (i := 0) dX9_start_117 rfl rfl ?_
  refine V_aload_n (pc := 118) (i := 1) dX9_start_118 rfl rfl ?_
  obtain ⟨q47, g48, e⟩ := ob_some e
  refine V_getR (pc := 119) (ci := 2) (k := 9) (b := q47) dX9_start_119 fl_X9_56 rfl (kd_sI (kd_sI (kd_sI (kd_sI (kd_sI (of_decide_eq_true g16)))))) g48 ?_
  refine V_aload_n (pc := 122) (i := 1) dX9_start_122 rfl rfl ?_
  obtain ⟨q49, g50, e⟩ := ob_some e
  refine V_getR (pc := 123) (ci := 2) (k := 2) (b := q49) dX9_start_123 fl_X9_53 rfl (kd_sI (kd_sI (kd_sI (kd_sI (kd_sI (of_decide_eq_true g16)))))) g50 ?_
  obtain ⟨r52, g51, e⟩ := ob_some e
  obtain ⟨g53, e⟩ := gd_some e
  refine V_callV (pc := 126) (bc := 0) (bs := 0) (mc := 0) (ms := 0) (st := [.ref v0]) (As := [.ref q49]) (a := q47) (h' := (setI (setI (setI (setI (setI h15 v0 3 r20) v0 4 r25) v0 5 r31) v0 6 r38) v0 7 r45)) (r := some (.int r52)) dX9_start_126 ml_X9_66 (ci := 7) rfl (of_decide_eq_true g53) rfl rfl (Nat.le_of_ble_eq_true rfl) (d' := 0) (by decide) (c_X8_highest (l := x.2.1) q47 q49 (setI (setI (setI (setI (setI h15 v0 3 r20) v0 4 r25) v0 5 r31) v0 6 r38) v0 7 r45) g51) ?_
  refine V_putI (pc := 129) (ci := 8) (k := 8) dX9_start_129 fp_X9_38 rfl (kd_sI (kd_sI (kd_sI (kd_sI (kd_sI (of_decide_eq_true g21)))))) ?_
  refine V_aload_n (pc := 132) (i := 0) dX9_start_132 rfl rfl ?_
  refine V_aload_n (pc := 133) (i := 1) dX9_start_133 rfl rfl ?_
  refine V_getI (pc := 134) (ci := 2) (k := 12) dX9_start_134 fl_X9_69 rfl (kd_sI (kd_sI (kd_sI (kd_sI (kd_sI (kd_sI (of_decide_eq_true g16))))))) ?_
  refine V_putI (pc := 137) (ci := 8) (k := 9) dX9_start_137 fp_X9_41 rfl (kd_sI (kd_sI (kd_sI (kd_sI (kd_sI (kd_sI (of_decide_eq_true g21))))))) ?_
  obtain ⟨h54, g55, e⟩ := ob_some e
  refine V_hp (Option.some.inj g55) ?_
  have k56 : kd h54 v1 = 2 := kd_eq (h := (setI (setI (setI (setI (setI (setI (setI h15 v0 3 r20) v0 4 r25) v0 5 r31) v0 6 r38) v0 7 r45) v0 8 r52) v0 9 (zI (setI (setI (setI (setI (setI (setI h15 v0 3 r20) v0 4 r25) v0 5 r31) v0 6 r38) v0 7 r45) v0 8 r52) v1 12))) (Option.some.inj g55) (kd_sI (kd_sI (kd_sI (kd_sI (kd_sI (kd_sI (kd_sI (of_decide_eq_true g16))))))))
  have k57 : kd h54 v0 = 8 := kd_eq (h := (setI (setI (setI (setI (setI (setI (setI h15 v0 3 r20) v0 4 r25) v0 5 r31) v0 6 r38) v0 7 r45) v0 8 r52) v0 9 (zI (setI (setI (setI (setI (setI (setI h15 v0 3 r20) v0 4 r25) v0 5 r31) v0 6 r38) v0 7 r45) v0 8 r52) v1 12))) (Option.some.inj g55) (kd_sI (kd_sI (kd_sI (kd_sI (kd_sI (kd_sI (kd_sI (of_decide_eq_true g21))))))))
  have k58 : kd h54 q26 = 7 := kd_eq (h := (setI (setI (setI (setI (setI (setI (setI h15 v0 3 r20) v0 4 r25) v0 5 r31) v0 6 r38) v0 7 r45) v0 8 r52) v0 9 (zI (setI (setI (setI (setI (setI (setI h15 v0 3 r20) v0 4 r25) v0 5 r31) v0 6 r38) v0 7 r45) v0 8 r52) v1 12))) (Option.some.inj g55) (kd_sI (kd_sI (kd_sI (kd_sI (kd_sI (of_decide_eq_true g32))))))
  have k59 : kd h54 q33 = 7 := kd_eq (h := (setI (setI (setI (setI (setI (setI (setI h15 v0 3 r20) v0 4 r25) v0 5 r31) v0 6 r38) v0 7 r45) v0 8 r52) v0 9 (zI (setI (setI (setI (setI (setI (setI h15 v0 3 r20) v0 4 r25) v0 5 r31) v0 6 r38) v0 7 r45) v0 8 r52) v1 12))) (Option.some.inj g55) (kd_sI (kd_sI (kd_sI (kd_sI (of_decide_eq_true g39)))))
  have k60 : kd h54 q40 = 7 := kd_eq (h := (setI (setI (setI (setI (setI (setI (setI h15 v0 3 r20) v0 4 r25) v0 5 r31) v0 6 r38) v0 7 r45) v0 8 r52) v0 9 (zI (setI (setI (setI (setI (setI (setI h15 v0 3 r20) v0 4 r25) v0 5 r31) v0 6 r38) v0 7 r45) v0 8 r52) v1 12))) (Option.some.inj g55) (kd_sI (kd_sI (kd_sI (of_decide_eq_true g46))))
  have k61 : kd h54 q47 = 7 := kd_eq (h := (setI (setI (setI (setI (setI (setI (setI h15 v0 3 r20) v0 4 r25) v0 5 r31) v0 6 r38) v0 7 r45) v0 8 r52) v0 9 (zI (setI (setI (setI (setI (setI (setI h15 v0 3 r20) v0 4 r25) v0 5 r31) v0 6 r38) v0 7 r45) v0 8 r52) v1 12))) (Option.some.inj g55) (kd_sI (kd_sI (of_decide_eq_true g53)))
  cases e
  exact V_vret (pc := 140) dX9_start_140 hF
def F_X9_start (v0 : Nat) (v1 : Nat) (v2 : Int32) (h : Hp) : Option (Unit × Hp) := F_X9_start_b0 v0 v1 v2 h
theorem c_X9_start {l : Launch} (v0 : Nat) (v1 : Nat) (v2 : Int32) (h : Hp) {r : Unit} {hz : Hp} (e : F_X9_start v0 v1 v2 h = some (r, hz)) : Ct l yX9_start M_X9_start none 1 [.ref v0, .ref v1, .int v2] h 0 0 none hz :=
  Ct_of rfl rfl (fun q => by cases q) (Nat.le_of_ble_eq_true rfl) (fun x _ hF => V_pick [0, 1, 2] rfl (r_X9_start_b0 v0 v1 v2 h e hF))

theorem dX10_join_0 : decode cX10_join 0 = .ok (.iload_n 0, 1) := by decide +kernel
theorem dX10_join_1 : decode cX10_join 1 = .ok (.tableswitch 61 (-4) (-1) #[57, 46, 35, 31], 31) := by decide +kernel
theorem dX10_join_32 : decode cX10_join 32 = .ok (.iload_n 1, 1) := by decide +kernel
theorem dX10_join_33 : decode cX10_join 33 = .ok (.iload_n 2, 1) := by decide +kernel
theorem dX10_join_34 : decode cX10_join 34 = .ok (.iadd, 1) := by decide +kernel
theorem dX10_join_35 : decode cX10_join 35 = .ok (.ireturn, 1) := by decide +kernel
theorem dX10_join_36 : decode cX10_join 36 = .ok (.iload_n 1, 1) := by decide +kernel
theorem dX10_join_37 : decode cX10_join 37 = .ok (.iload_n 2, 1) := by decide +kernel
theorem dX10_join_38 : decode cX10_join 38 = .ok (.if_icmp .ge 7, 3) := by decide +kernel
theorem dX10_join_41 : decode cX10_join 41 = .ok (.iconst 1, 1) := by decide +kernel
theorem dX10_join_42 : decode cX10_join 42 = .ok (.goto 4, 3) := by decide +kernel
theorem dX10_join_45 : decode cX10_join 45 = .ok (.iconst 0, 1) := by decide +kernel
theorem dX10_join_46 : decode cX10_join 46 = .ok (.ireturn, 1) := by decide +kernel
theorem dX10_join_47 : decode cX10_join 47 = .ok (.iload_n 1, 1) := by decide +kernel
theorem dX10_join_48 : decode cX10_join 48 = .ok (.iload_n 2, 1) := by decide +kernel
theorem dX10_join_49 : decode cX10_join 49 = .ok (.if_icmp .le 7, 3) := by decide +kernel
theorem dX10_join_52 : decode cX10_join 52 = .ok (.iconst 1, 1) := by decide +kernel
theorem dX10_join_53 : decode cX10_join 53 = .ok (.goto 4, 3) := by decide +kernel
theorem dX10_join_56 : decode cX10_join 56 = .ok (.iconst 0, 1) := by decide +kernel
theorem dX10_join_57 : decode cX10_join 57 = .ok (.ireturn, 1) := by decide +kernel
theorem dX10_join_58 : decode cX10_join 58 = .ok (.iload_n 1, 1) := by decide +kernel
theorem dX10_join_59 : decode cX10_join 59 = .ok (.iload_n 2, 1) := by decide +kernel
theorem dX10_join_60 : decode cX10_join 60 = .ok (.iand, 1) := by decide +kernel
theorem dX10_join_61 : decode cX10_join 61 = .ok (.ireturn, 1) := by decide +kernel
theorem dX10_join_62 : decode cX10_join 62 = .ok (.iload_n 1, 1) := by decide +kernel
theorem dX10_join_63 : decode cX10_join 63 = .ok (.iload_n 2, 1) := by decide +kernel
theorem dX10_join_64 : decode cX10_join 64 = .ok (.ior, 1) := by decide +kernel
theorem dX10_join_65 : decode cX10_join 65 = .ok (.ireturn, 1) := by decide +kernel
set_option maxRecDepth 100000 in
def F_X10_join_b57 (t0 : Int32) (h : Hp) : Option Int32 :=
  some t0
set_option maxHeartbeats 4000000 in
set_option maxRecDepth 100000 in
theorem r_X10_join_b57 (t0 : Int32) (h : Hp) {x : Cx} {r : Int32} (e : F_X10_join_b57 t0 h = some r) (hF : Fin9 M_X10_join x (some .int) (some (.int r)) h) : V M_X10_join x 0 57 [] [.int t0] h 0 0 := by
  unfold F_X10_join_b57 at e
  cases e
  exact V_iret (pc := 57) dX10_join_57 hF
set_option maxRecDepth 100000 in
def F_X10_join_b46 (t0 : Int32) (h : Hp) : Option Int32 :=
  some t0
set_option maxHeartbeats 4000000 in
set_option maxRecDepth 100000 in
theorem r_X10_join_b46 (t0 : Int32) (h : Hp) {x : Cx} {r : Int32} (e : F_X10_join_b46 t0 h = some r) (hF : Fin9 M_X10_join x (some .int) (some (.int r)) h) : V M_X10_join x 0 46 [] [.int t0] h 0 0 := by
  unfold F_X10_join_b46 at e
  cases e
  exact V_iret (pc := 46) dX10_join_46 hF
set_option maxRecDepth 100000 in
def F_X10_join_b0 (v0 : Int32) (v1 : Int32) (v2 : Int32) (h : Hp) : Option Int32 :=
  (if v0 = (-4 : Int32) then some (v1 &&& v2) else if v0 = (-3 : Int32) then (if v1 ≤ v2 then F_X10_join_b57 (0 : Int32) h else F_X10_join_b57 (1 : Int32) h) else if v0 = (-2 : Int32) then (if v2 ≤ v1 then F_X10_join_b46 (0 : Int32) h else F_X10_join_b46 (1 : Int32) h) else if v0 = (-1 : Int32) then some (v1 + v2) else some (v1 ||| v2))
set_option maxHeartbeats 4000000 in
set_option maxRecDepth 100000 in
theorem r_X10_join_b0 (v0 : Int32) (v1 : Int32) (v2 : Int32) (h : Hp) {x : Cx} {r : Int32} (e : F_X10_join_b0 v0 v1 v2 h = some r) (hF : Fin9 M_X10_join x (some .int) (some (.int r)) h) : V M_X10_join x 0 0 [(0, .int v0), (1, .int v1), (2, .int v2)] [] h 0 0 := by
  unfold F_X10_join_b0 at e
  refine V_iload_n (pc := 0) (i := 0) dX10_join_0 rfl rfl ?_
  by_cases c1 : v0 = (-4 : Int32)
  · rw [if_pos c1] at e
    refine V_tableIn (pc := 1) (tgt := 58) dX10_join_1 (by rw [c1]; decide) (by rw [c1]; decide) (by rw [c1]; rfl) (by decide) ?_
    refine V_pick [1, 2] rfl ?_
    refine V_iload_n (pc := 58) (i := 1) dX10_join_58 rfl rfl ?_
    refine V_iload_n (pc := 59) (i := 2) dX10_join_59 rfl rfl ?_
    refine V_iand (pc := 60) dX10_join_60 ?_
    cases e
    exact V_iret (pc := 61) dX10_join_61 hF
  · rw [if_neg c1] at e
    by_cases c3 : v0 = (-3 : Int32)
    · rw [if_pos c3] at e
      refine V_tableIn (pc := 1) (tgt := 47) dX10_join_1 (by rw [c3]; decide) (by rw [c3]; decide) (by rw [c3]; rfl) (by decide) ?_
      refine V_pick [1, 2] rfl ?_
      refine V_iload_n (pc := 47) (i := 1) dX10_join_47 rfl rfl ?_
      refine V_iload_n (pc := 48) (i := 2) dX10_join_48 rfl rfl ?_
      refine V_icmp_le (pc := 49) (tgt := 56) dX10_join_49 (by decide) (fun c2 => ?_) (fun c2 => ?_)
      · rw [if_pos c2] at e
        refine V_pick [] rfl ?_
        refine V_iconst (pc := 56) (v := (0 : Int32)) dX10_join_56 (by decide) ?_
        exact V_pick [] rfl (r_X10_join_b57 (0 : Int32) h e hF)
      · rw [if_neg c2] at e
        refine V_pick [] rfl ?_
        refine V_iconst (pc := 52) (v := (1 : Int32)) dX10_join_52 (by decide) ?_
        refine V_goto (pc := 53) (tgt := 57) dX10_join_53 (by decide) ?_
        exact V_pick [] rfl (r_X10_join_b57 (1 : Int32) h e hF)
    · rw [if_neg c3] at e
      by_cases c5 : v0 = (-2 : Int32)
      · rw [if_pos c5] at e
        refine V_tableIn (pc := 1) (tgt := 36) dX10_join_1 (by rw [c5]; decide) (by rw [c5]; decide) (by rw [c5]; rfl) (by decide) ?_
        refine V_pick [1, 2] rfl ?_
        refine V_iload_n (pc := 36) (i := 1) dX10_join_36 rfl rfl ?_
        refine V_iload_n (pc := 37) (i := 2) dX10_join_37 rfl rfl ?_
        refine V_icmp_ge (pc := 38) (tgt := 45) dX10_join_38 (by decide) (fun c4 => ?_) (fun c4 => ?_)
        · rw [if_pos c4] at e
          refine V_pick [] rfl ?_
          refine V_iconst (pc := 45) (v := (0 : Int32)) dX10_join_45 (by decide) ?_
          exact V_pick [] rfl (r_X10_join_b46 (0 : Int32) h e hF)
        · rw [if_neg c4] at e
          refine V_pick [] rfl ?_
          refine V_iconst (pc := 41) (v := (1 : Int32)) dX10_join_41 (by decide) ?_
          refine V_goto (pc := 42) (tgt := 46) dX10_join_42 (by decide) ?_
          exact V_pick [] rfl (r_X10_join_b46 (1 : Int32) h e hF)
      · rw [if_neg c5] at e
        by_cases c6 : v0 = (-1 : Int32)
        · rw [if_pos c6] at e
          refine V_tableIn (pc := 1) (tgt := 32) dX10_join_1 (by rw [c6]; decide) (by rw [c6]; decide) (by rw [c6]; rfl) (by decide) ?_
          refine V_pick [1, 2] rfl ?_
          refine V_iload_n (pc := 32) (i := 1) dX10_join_32 rfl rfl ?_
          refine V_iload_n (pc := 33) (i := 2) dX10_join_33 rfl rfl ?_
          refine V_iadd (pc := 34) dX10_join_34 ?_
          cases e
          exact V_iret (pc := 35) dX10_join_35 hF
        · rw [if_neg c6] at e
          refine V_tableOut (pc := 1) (tgt := 62) dX10_join_1 (by have q0 := tI_ne c1 (z := -4) (by decide); have q1 := tI_ne c3 (z := -3) (by decide); have q2 := tI_ne c5 (z := -2) (by decide); have q3 := tI_ne c6 (z := -1) (by decide); omega) (by decide) ?_
          refine V_pick [1, 2] rfl ?_
          refine V_iload_n (pc := 62) (i := 1) dX10_join_62 rfl rfl ?_
          refine V_iload_n (pc := 63) (i := 2) dX10_join_63 rfl rfl ?_
          refine V_ior (pc := 64) dX10_join_64 ?_
          cases e
          exact V_iret (pc := 65) dX10_join_65 hF
def F_X10_join (v0 : Int32) (v1 : Int32) (v2 : Int32) (h : Hp) : Option Int32 := F_X10_join_b0 v0 v1 v2 h
theorem c_X10_join {l : Launch} (v0 : Int32) (v1 : Int32) (v2 : Int32) (h : Hp) {r : Int32} (e : F_X10_join v0 v1 v2 h = some r) : Ct l yX10_join M_X10_join (some .int) 0 [.int v0, .int v1, .int v2] h 0 0 (some (.int r)) h :=
  Ct_of rfl rfl (fun q => by cases q) (Nat.le_of_ble_eq_true rfl) (fun x _ hF => V_pick [0, 1, 2] rfl (r_X10_join_b0 v0 v1 v2 h e hF))
theorem dX10_valueOf_0 : decode cX10_valueOf 0 = .ok (.iload_n 0, 1) := by decide +kernel
theorem dX10_valueOf_1 : decode cX10_valueOf 1 = .ok (.ifCond .lt 5, 3) := by decide +kernel
theorem dX10_valueOf_4 : decode cX10_valueOf 4 = .ok (.iload_n 0, 1) := by decide +kernel
theorem dX10_valueOf_5 : decode cX10_valueOf 5 = .ok (.ireturn, 1) := by decide +kernel
theorem dX10_valueOf_6 : decode cX10_valueOf 6 = .ok (.aload_n 3, 1) := by decide +kernel
theorem dX10_valueOf_7 : decode cX10_valueOf 7 = .ok (.iload_n 2, 1) := by decide +kernel
theorem dX10_valueOf_8 : decode cX10_valueOf 8 = .ok (.iaload, 1) := by decide +kernel
theorem dX10_valueOf_9 : decode cX10_valueOf 9 = .ok (.istore 4, 2) := by decide +kernel
theorem dX10_valueOf_11 : decode cX10_valueOf 11 = .ok (.iload_n 0, 1) := by decide +kernel
theorem dX10_valueOf_12 : decode cX10_valueOf 12 = .ok (.tableswitch 128 (-15) (-8) #[125, 117, 109, 102, 91, 80, 65, 48], 48) := by decide +kernel
theorem dX10_valueOf_60 : decode cX10_valueOf 60 = .ok (.aload_n 1, 1) := by decide +kernel
theorem dX10_valueOf_61 : decode cX10_valueOf 61 = .ok (.iload 4, 2) := by decide +kernel
theorem dX10_valueOf_63 : decode cX10_valueOf 63 = .ok (.aload_n 3, 1) := by decide +kernel
theorem dX10_valueOf_64 : decode cX10_valueOf 64 = .ok (.invokevirtual 130, 3) := by decide +kernel
theorem dX10_valueOf_67 : decode cX10_valueOf 67 = .ok (.iconst 1, 1) := by decide +kernel
theorem dX10_valueOf_68 : decode cX10_valueOf 68 = .ok (.if_icmp .ne 7, 3) := by decide +kernel
theorem dX10_valueOf_71 : decode cX10_valueOf 71 = .ok (.iconst 1, 1) := by decide +kernel
theorem dX10_valueOf_72 : decode cX10_valueOf 72 = .ok (.goto 4, 3) := by decide +kernel
theorem dX10_valueOf_75 : decode cX10_valueOf 75 = .ok (.iconst 0, 1) := by decide +kernel
theorem dX10_valueOf_76 : decode cX10_valueOf 76 = .ok (.ireturn, 1) := by decide +kernel
theorem dX10_valueOf_77 : decode cX10_valueOf 77 = .ok (.aload_n 1, 1) := by decide +kernel
theorem dX10_valueOf_78 : decode cX10_valueOf 78 = .ok (.getfield 136, 3) := by decide +kernel
theorem dX10_valueOf_81 : decode cX10_valueOf 81 = .ok (.iload 4, 2) := by decide +kernel
theorem dX10_valueOf_83 : decode cX10_valueOf 83 = .ok (.if_icmp .ne 7, 3) := by decide +kernel
theorem dX10_valueOf_86 : decode cX10_valueOf 86 = .ok (.iconst 1, 1) := by decide +kernel
theorem dX10_valueOf_87 : decode cX10_valueOf 87 = .ok (.goto 4, 3) := by decide +kernel
theorem dX10_valueOf_90 : decode cX10_valueOf 90 = .ok (.iconst 0, 1) := by decide +kernel
theorem dX10_valueOf_91 : decode cX10_valueOf 91 = .ok (.ireturn, 1) := by decide +kernel
theorem dX10_valueOf_92 : decode cX10_valueOf 92 = .ok (.aload_n 1, 1) := by decide +kernel
theorem dX10_valueOf_93 : decode cX10_valueOf 93 = .ok (.getfield 139, 3) := by decide +kernel
theorem dX10_valueOf_96 : decode cX10_valueOf 96 = .ok (.iload 4, 2) := by decide +kernel
theorem dX10_valueOf_98 : decode cX10_valueOf 98 = .ok (.iaload, 1) := by decide +kernel
theorem dX10_valueOf_99 : decode cX10_valueOf 99 = .ok (.bipush 9, 2) := by decide +kernel
theorem dX10_valueOf_101 : decode cX10_valueOf 101 = .ok (.iadd, 1) := by decide +kernel
theorem dX10_valueOf_102 : decode cX10_valueOf 102 = .ok (.ireturn, 1) := by decide +kernel
theorem dX10_valueOf_103 : decode cX10_valueOf 103 = .ok (.aload_n 1, 1) := by decide +kernel
theorem dX10_valueOf_104 : decode cX10_valueOf 104 = .ok (.getfield 141, 3) := by decide +kernel
theorem dX10_valueOf_107 : decode cX10_valueOf 107 = .ok (.iload 4, 2) := by decide +kernel
theorem dX10_valueOf_109 : decode cX10_valueOf 109 = .ok (.iaload, 1) := by decide +kernel
theorem dX10_valueOf_110 : decode cX10_valueOf 110 = .ok (.bipush 9, 2) := by decide +kernel
theorem dX10_valueOf_112 : decode cX10_valueOf 112 = .ok (.iadd, 1) := by decide +kernel
theorem dX10_valueOf_113 : decode cX10_valueOf 113 = .ok (.ireturn, 1) := by decide +kernel
theorem dX10_valueOf_114 : decode cX10_valueOf 114 = .ok (.aload_n 1, 1) := by decide +kernel
theorem dX10_valueOf_115 : decode cX10_valueOf 115 = .ok (.iload 4, 2) := by decide +kernel
theorem dX10_valueOf_117 : decode cX10_valueOf 117 = .ok (.invokevirtual 143, 3) := by decide +kernel
theorem dX10_valueOf_120 : decode cX10_valueOf 120 = .ok (.ireturn, 1) := by decide +kernel
theorem dX10_valueOf_121 : decode cX10_valueOf 121 = .ok (.aload_n 1, 1) := by decide +kernel
theorem dX10_valueOf_122 : decode cX10_valueOf 122 = .ok (.iload 4, 2) := by decide +kernel
theorem dX10_valueOf_124 : decode cX10_valueOf 124 = .ok (.aload_n 3, 1) := by decide +kernel
theorem dX10_valueOf_125 : decode cX10_valueOf 125 = .ok (.invokevirtual 130, 3) := by decide +kernel
theorem dX10_valueOf_128 : decode cX10_valueOf 128 = .ok (.ireturn, 1) := by decide +kernel
theorem dX10_valueOf_129 : decode cX10_valueOf 129 = .ok (.aload_n 1, 1) := by decide +kernel
theorem dX10_valueOf_130 : decode cX10_valueOf 130 = .ok (.getfield 147, 3) := by decide +kernel
theorem dX10_valueOf_133 : decode cX10_valueOf 133 = .ok (.iload 4, 2) := by decide +kernel
theorem dX10_valueOf_135 : decode cX10_valueOf 135 = .ok (.iaload, 1) := by decide +kernel
theorem dX10_valueOf_136 : decode cX10_valueOf 136 = .ok (.ireturn, 1) := by decide +kernel
theorem dX10_valueOf_137 : decode cX10_valueOf 137 = .ok (.iload 4, 2) := by decide +kernel
theorem dX10_valueOf_139 : decode cX10_valueOf 139 = .ok (.ireturn, 1) := by decide +kernel
theorem dX10_valueOf_140 : decode cX10_valueOf 140 = .ok (.bipush (-16), 2) := by decide +kernel
theorem dX10_valueOf_142 : decode cX10_valueOf 142 = .ok (.iload_n 0, 1) := by decide +kernel
theorem dX10_valueOf_143 : decode cX10_valueOf 143 = .ok (.isub, 1) := by decide +kernel
theorem dX10_valueOf_144 : decode cX10_valueOf 144 = .ok (.istore 5, 2) := by decide +kernel
theorem dX10_valueOf_146 : decode cX10_valueOf 146 = .ok (.aload_n 1, 1) := by decide +kernel
theorem dX10_valueOf_147 : decode cX10_valueOf 147 = .ok (.iload 5, 2) := by decide +kernel
theorem dX10_valueOf_149 : decode cX10_valueOf 149 = .ok (.invokevirtual 149, 3) := by decide +kernel
theorem dX10_valueOf_152 : decode cX10_valueOf 152 = .ok (.ifCond .eq 16, 3) := by decide +kernel
theorem dX10_valueOf_155 : decode cX10_valueOf 155 = .ok (.aload_n 3, 1) := by decide +kernel
theorem dX10_valueOf_156 : decode cX10_valueOf 156 = .ok (.iload 5, 2) := by decide +kernel
theorem dX10_valueOf_158 : decode cX10_valueOf 158 = .ok (.iaload, 1) := by decide +kernel
theorem dX10_valueOf_159 : decode cX10_valueOf 159 = .ok (.iload 4, 2) := by decide +kernel
theorem dX10_valueOf_161 : decode cX10_valueOf 161 = .ok (.if_icmp .ne 7, 3) := by decide +kernel
theorem dX10_valueOf_164 : decode cX10_valueOf 164 = .ok (.iconst 1, 1) := by decide +kernel
theorem dX10_valueOf_165 : decode cX10_valueOf 165 = .ok (.goto 4, 3) := by decide +kernel
theorem dX10_valueOf_168 : decode cX10_valueOf 168 = .ok (.iconst 0, 1) := by decide +kernel
theorem dX10_valueOf_169 : decode cX10_valueOf 169 = .ok (.ireturn, 1) := by decide +kernel
set_option maxRecDepth 100000 in
def F_X10_valueOf_b91 (t0 : Int32) (h : Hp) : Option Int32 :=
  some t0
set_option maxHeartbeats 4000000 in
set_option maxRecDepth 100000 in
theorem r_X10_valueOf_b91 (t0 : Int32) (h : Hp) {x : Cx} {r : Int32} (e : F_X10_valueOf_b91 t0 h = some r) (hF : Fin9 M_X10_valueOf x (some .int) (some (.int r)) h) : V M_X10_valueOf x 2 91 [] [.int t0] h 0 0 := by
  unfold F_X10_valueOf_b91 at e
  cases e
  exact V_iret (pc := 91) dX10_valueOf_91 hF
set_option maxRecDepth 100000 in
def F_X10_valueOf_b76 (t0 : Int32) (h : Hp) : Option Int32 :=
  some t0
set_option maxHeartbeats 4000000 in
set_option maxRecDepth 100000 in
theorem r_X10_valueOf_b76 (t0 : Int32) (h : Hp) {x : Cx} {r : Int32} (e : F_X10_valueOf_b76 t0 h = some r) (hF : Fin9 M_X10_valueOf x (some .int) (some (.int r)) h) : V M_X10_valueOf x 2 76 [] [.int t0] h 0 0 := by
  unfold F_X10_valueOf_b76 at e
  cases e
  exact V_iret (pc := 76) dX10_valueOf_76 hF
set_option maxRecDepth 100000 in
def F_X10_valueOf_b169 (t0 : Int32) (h : Hp) : Option Int32 :=
  some t0
set_option maxHeartbeats 4000000 in
set_option maxRecDepth 100000 in
theorem r_X10_valueOf_b169 (t0 : Int32) (h : Hp) {x : Cx} {r : Int32} (e : F_X10_valueOf_b169 t0 h = some r) (hF : Fin9 M_X10_valueOf x (some .int) (some (.int r)) h) : V M_X10_valueOf x 2 169 [] [.int t0] h 0 0 := by
  unfold F_X10_valueOf_b169 at e
  cases e
  exact V_iret (pc := 169) dX10_valueOf_169 hF
set_option maxRecDepth 100000 in
def F_X10_valueOf_b168  (h : Hp) : Option Int32 :=
  F_X10_valueOf_b169 (0 : Int32) h
set_option maxHeartbeats 4000000 in
set_option maxRecDepth 100000 in
theorem r_X10_valueOf_b168  (h : Hp) {x : Cx} {r : Int32} (e : F_X10_valueOf_b168  h = some r) (hF : Fin9 M_X10_valueOf x (some .int) (some (.int r)) h) : V M_X10_valueOf x 2 168 [] [] h 0 0 := by
  unfold F_X10_valueOf_b168 at e
  refine V_iconst (pc := 168) (v := (0 : Int32)) dX10_valueOf_168 (by decide) ?_
  exact V_pick [] rfl (r_X10_valueOf_b169 (0 : Int32) h e hF)
set_option maxRecDepth 100000 in
def F_X10_valueOf_b0 (v0 : Int32) (v1 : Nat) (v2 : Int32) (v3 : Nat) (h : Hp) : Option Int32 :=
  (if v0 < 0 then gd (decide (kd h v3 = 13)) <| gd (ix v2 (zl h v3)) <| (if v0 = (-15 : Int32) then some (zI h v3 (v2).toNatClampNeg) else if v0 = (-14 : Int32) then gd (decide (kd h v1 = 2)) <| ob (zR h v1 4) fun q5 => gd (decide (kd h q5 = 13)) <| gd (ix (zI h v3 (v2).toNatClampNeg) (zl h q5)) <| some (zI h q5 (zI h v3 (v2).toNatClampNeg).toNatClampNeg) else if v0 = (-13 : Int32) then ob (F_X2_headsIn v1 (zI h v3 (v2).toNatClampNeg) v3 h) fun r11 => gd (decide (kd h v1 = 2)) <| some r11 else if v0 = (-12 : Int32) then ob (F_X2_farOf v1 (zI h v3 (v2).toNatClampNeg) h) fun r15 => gd (decide (kd h v1 = 2)) <| some r15 else if v0 = (-11 : Int32) then gd (decide (kd h v1 = 2)) <| ob (zR h v1 2) fun q19 => gd (decide (kd h q19 = 13)) <| gd (ix (zI h v3 (v2).toNatClampNeg) (zl h q19)) <| some ((zI h q19 (zI h v3 (v2).toNatClampNeg).toNatClampNeg) + (9 : Int32)) else if v0 = (-10 : Int32) then gd (decide (kd h v1 = 2)) <| ob (zR h v1 1) fun q25 => gd (decide (kd h q25 = 13)) <| gd (ix (zI h v3 (v2).toNatClampNeg) (zl h q25)) <| some ((zI h q25 (zI h v3 (v2).toNatClampNeg).toNatClampNeg) + (9 : Int32)) else if v0 = (-9 : Int32) then gd (decide (kd h v1 = 2)) <| (if (zI h v1 11) = (zI h v3 (v2).toNatClampNeg) then F_X10_valueOf_b91 (1 : Int32) h else F_X10_valueOf_b91 (0 : Int32) h) else if v0 = (-8 : Int32) then ob (F_X2_headsIn v1 (zI h v3 (v2).toNatClampNeg) v3 h) fun r34 => gd (decide (kd h v1 = 2)) <| (if r34 = (1 : Int32) then F_X10_valueOf_b76 (1 : Int32) h else F_X10_valueOf_b76 (0 : Int32) h) else ob (F_X2_hasGuest v1 ((-16 : Int32) - v0) h) fun r39 => gd (decide (kd h v1 = 2)) <| (if r39 = 0 then F_X10_valueOf_b168 h else gd (ix ((-16 : Int32) - v0) (zl h v3)) <| (if (zI h v3 ((-16 : Int32) - v0).toNatClampNeg) = (zI h v3 (v2).toNatClampNeg) then F_X10_valueOf_b169 (1 : Int32) h else F_X10_valueOf_b168 h))) else some v0)
set_option maxHeartbeats 4000000 in
set_option maxRecDepth 100000 in
theorem r_X10_valueOf_b0 (v0 : Int32) (v1 : Nat) (v2 : Int32) (v3 : Nat) (h : Hp) {x : Cx} {r : Int32} (e : F_X10_valueOf_b0 v0 v1 v2 v3 h = some r) (hF : Fin9 M_X10_valueOf x (some .int) (some (.int r)) h) : V M_X10_valueOf x 2 0 [(0, .int v0), (1, .ref v1), (2, .int v2), (3, .ref v3)] [] h 0 0 := by
  unfold F_X10_valueOf_b0 at e
  refine V_iload_n (pc := 0) (i := 0) dX10_valueOf_0 rfl rfl ?_
  refine V_if_lt (pc := 1) (tgt := 6) dX10_valueOf_1 (by decide) (fun c44 => ?_) (fun c44 => ?_)
  · rw [if_pos c44] at e
    refine V_pick [0, 1, 2, 3] rfl ?_
    refine V_aload_n (pc := 6) (i := 3) dX10_valueOf_6 rfl rfl ?_
    refine V_iload_n (pc := 7) (i := 2) dX10_valueOf_7 rfl rfl ?_
    obtain ⟨g1, e⟩ := gd_some e
    obtain ⟨g2, e⟩ := gd_some e
    refine V_iald (pc := 8) dX10_valueOf_8 (of_decide_eq_true g1) (ix_in g2) ?_
    refine V_istore (pc := 9) (i := 4) (lv' := [(4, .int (zI h v3 (v2).toNatClampNeg)), (0, .int v0), (1, .ref v1), (2, .int v2), (3, .ref v3)]) dX10_valueOf_9 (by decide) rfl ?_
    refine V_iload_n (pc := 11) (i := 0) dX10_valueOf_11 rfl rfl ?_
    by_cases c3 : v0 = (-15 : Int32)
    · rw [if_pos c3] at e
      refine V_tableIn (pc := 12) (tgt := 137) dX10_valueOf_12 (by rw [c3]; decide) (by rw [c3]; decide) (by rw [c3]; rfl) (by decide) ?_
      refine V_pick [0] rfl ?_
      refine V_iload (pc := 137) (i := 4) dX10_valueOf_137 rfl ?_
      cases e
      exact V_iret (pc := 139) dX10_valueOf_139 hF
    · rw [if_neg c3] at e
      by_cases c9 : v0 = (-14 : Int32)
      · rw [if_pos c9] at e
        refine V_tableIn (pc := 12) (tgt := 129) dX10_valueOf_12 (by rw [c9]; decide) (by rw [c9]; decide) (by rw [c9]; rfl) (by decide) ?_
        refine V_pick [2, 0] rfl ?_
        refine V_aload_n (pc := 129) (i := 1) dX10_valueOf_129 rfl rfl ?_
        obtain ⟨g4, e⟩ := gd_some e
        obtain ⟨q5, g6, e⟩ := ob_some e
        refine V_getR (pc := 130) (ci := 2) (k := 4) (b := q5) dX10_valueOf_130 fl_X10_147 rfl (of_decide_eq_true g4) g6 ?_
        refine V_iload (pc := 133) (i := 4) dX10_valueOf_133 rfl ?_
        obtain ⟨g7, e⟩ := gd_some e
        obtain ⟨g8, e⟩ := gd_some e
        refine V_iald (pc := 135) dX10_valueOf_135 (of_decide_eq_true g7) (ix_in g8) ?_
        cases e
        exact V_iret (pc := 136) dX10_valueOf_136 hF
      · rw [if_neg c9] at e
        by_cases c13 : v0 = (-13 : Int32)
        · rw [if_pos c13] at e
          refine V_tableIn (pc := 12) (tgt := 121) dX10_valueOf_12 (by rw [c13]; decide) (by rw [c13]; decide) (by rw [c13]; rfl) (by decide) ?_
          refine V_pick [2, 4, 0] rfl ?_
          refine V_aload_n (pc := 121) (i := 1) dX10_valueOf_121 rfl rfl ?_
          refine V_iload (pc := 122) (i := 4) dX10_valueOf_122 rfl ?_
          refine V_aload_n (pc := 124) (i := 3) dX10_valueOf_124 rfl rfl ?_
          obtain ⟨r11, g10, e⟩ := ob_some e
          obtain ⟨g12, e⟩ := gd_some e
          refine V_callV (pc := 125) (bc := 0) (bs := 0) (mc := 0) (ms := 0) (st := []) (As := [.int (zI h v3 (v2).toNatClampNeg), .ref v3]) (a := v1) (h' := h) (r := some (.int r11)) dX10_valueOf_125 ml_X10_130 (ci := 2) rfl (of_decide_eq_true g12) rfl rfl (Nat.le_of_ble_eq_true rfl) (d' := 0) (by decide) (c_X2_headsIn (l := x.2.1) v1 (zI h v3 (v2).toNatClampNeg) v3 h g10) ?_
          cases e
          exact V_iret (pc := 128) dX10_valueOf_128 hF
        · rw [if_neg c13] at e
          by_cases c17 : v0 = (-12 : Int32)
          · rw [if_pos c17] at e
            refine V_tableIn (pc := 12) (tgt := 114) dX10_valueOf_12 (by rw [c17]; decide) (by rw [c17]; decide) (by rw [c17]; rfl) (by decide) ?_
            refine V_pick [2, 0] rfl ?_
            refine V_aload_n (pc := 114) (i := 1) dX10_valueOf_114 rfl rfl ?_
            refine V_iload (pc := 115) (i := 4) dX10_valueOf_115 rfl ?_
            obtain ⟨r15, g14, e⟩ := ob_some e
            obtain ⟨g16, e⟩ := gd_some e
            refine V_callV (pc := 117) (bc := 0) (bs := 0) (mc := 0) (ms := 0) (st := []) (As := [.int (zI h v3 (v2).toNatClampNeg)]) (a := v1) (h' := h) (r := some (.int r15)) dX10_valueOf_117 ml_X10_143 (ci := 2) rfl (of_decide_eq_true g16) rfl rfl (Nat.le_of_ble_eq_true rfl) (d' := 1) (by decide) (c_X2_farOf (l := x.2.1) v1 (zI h v3 (v2).toNatClampNeg) h g14) ?_
            cases e
            exact V_iret (pc := 120) dX10_valueOf_120 hF
          · rw [if_neg c17] at e
            by_cases c23 : v0 = (-11 : Int32)
            · rw [if_pos c23] at e
              refine V_tableIn (pc := 12) (tgt := 103) dX10_valueOf_12 (by rw [c23]; decide) (by rw [c23]; decide) (by rw [c23]; rfl) (by decide) ?_
              refine V_pick [2, 0] rfl ?_
              refine V_aload_n (pc := 103) (i := 1) dX10_valueOf_103 rfl rfl ?_
              obtain ⟨g18, e⟩ := gd_some e
              obtain ⟨q19, g20, e⟩ := ob_some e
              refine V_getR (pc := 104) (ci := 2) (k := 2) (b := q19) dX10_valueOf_104 fl_X10_141 rfl (of_decide_eq_true g18) g20 ?_
              refine V_iload (pc := 107) (i := 4) dX10_valueOf_107 rfl ?_
              obtain ⟨g21, e⟩ := gd_some e
              obtain ⟨g22, e⟩ := gd_some e
              refine V_iald (pc := 109) dX10_valueOf_109 (of_decide_eq_true g21) (ix_in g22) ?_
              refine V_bipush (pc := 110) (v := (9 : Int32)) dX10_valueOf_110 (by decide) ?_
              refine V_iadd (pc := 112) dX10_valueOf_112 ?_
              cases e
              exact V_iret (pc := 113) dX10_valueOf_113 hF
            · rw [if_neg c23] at e
              by_cases c29 : v0 = (-10 : Int32)
              · rw [if_pos c29] at e
                refine V_tableIn (pc := 12) (tgt := 92) dX10_valueOf_12 (by rw [c29]; decide) (by rw [c29]; decide) (by rw [c29]; rfl) (by decide) ?_
                refine V_pick [2, 0] rfl ?_
                refine V_aload_n (pc := 92) (i := 1) dX10_valueOf_92 rfl rfl ?_
                obtain ⟨g24, e⟩ := gd_some e
                obtain ⟨q25, g26, e⟩ := ob_some e
                refine V_getR (pc := 93) (ci := 2) (k := 1) (b := q25) dX10_valueOf_93 fl_X10_139 rfl (of_decide_eq_true g24) g26 ?_
                refine V_iload (pc := 96) (i := 4) dX10_valueOf_96 rfl ?_
                obtain ⟨g27, e⟩ := gd_some e
                obtain ⟨g28, e⟩ := gd_some e
                refine V_iald (pc := 98) dX10_valueOf_98 (of_decide_eq_true g27) (ix_in g28) ?_
                refine V_bipush (pc := 99) (v := (9 : Int32)) dX10_valueOf_99 (by decide) ?_
                refine V_iadd (pc := 101) dX10_valueOf_101 ?_
                cases e
                exact V_iret (pc := 102) dX10_valueOf_102 hF
              · rw [if_neg c29] at e
                by_cases c32 : v0 = (-9 : Int32)
                · rw [if_pos c32] at e
                  refine V_tableIn (pc := 12) (tgt := 77) dX10_valueOf_12 (by rw [c32]; decide) (by rw [c32]; decide) (by rw [c32]; rfl) (by decide) ?_
                  refine V_pick [2, 0] rfl ?_
                  refine V_aload_n (pc := 77) (i := 1) dX10_valueOf_77 rfl rfl ?_
                  obtain ⟨g30, e⟩ := gd_some e
                  refine V_getI (pc := 78) (ci := 2) (k := 11) dX10_valueOf_78 fl_X10_136 rfl (of_decide_eq_true g30) ?_
                  refine V_iload (pc := 81) (i := 4) dX10_valueOf_81 rfl ?_
                  refine V_icmp_ne (pc := 83) (tgt := 90) dX10_valueOf_83 (by decide) (fun c31 => ?_) (fun c31 => ?_)
                  · rw [if_neg c31] at e
                    refine V_pick [] rfl ?_
                    refine V_iconst (pc := 90) (v := (0 : Int32)) dX10_valueOf_90 (by decide) ?_
                    exact V_pick [] rfl (r_X10_valueOf_b91 (0 : Int32) h e hF)
                  · rw [if_pos c31] at e
                    refine V_pick [] rfl ?_
                    refine V_iconst (pc := 86) (v := (1 : Int32)) dX10_valueOf_86 (by decide) ?_
                    refine V_goto (pc := 87) (tgt := 91) dX10_valueOf_87 (by decide) ?_
                    exact V_pick [] rfl (r_X10_valueOf_b91 (1 : Int32) h e hF)
                · rw [if_neg c32] at e
                  by_cases c37 : v0 = (-8 : Int32)
                  · rw [if_pos c37] at e
                    refine V_tableIn (pc := 12) (tgt := 60) dX10_valueOf_12 (by rw [c37]; decide) (by rw [c37]; decide) (by rw [c37]; rfl) (by decide) ?_
                    refine V_pick [2, 4, 0] rfl ?_
                    refine V_aload_n (pc := 60) (i := 1) dX10_valueOf_60 rfl rfl ?_
                    refine V_iload (pc := 61) (i := 4) dX10_valueOf_61 rfl ?_
                    refine V_aload_n (pc := 63) (i := 3) dX10_valueOf_63 rfl rfl ?_
                    obtain ⟨r34, g33, e⟩ := ob_some e
                    obtain ⟨g35, e⟩ := gd_some e
                    refine V_callV (pc := 64) (bc := 0) (bs := 0) (mc := 0) (ms := 0) (st := []) (As := [.int (zI h v3 (v2).toNatClampNeg), .ref v3]) (a := v1) (h' := h) (r := some (.int r34)) dX10_valueOf_64 ml_X10_130 (ci := 2) rfl (of_decide_eq_true g35) rfl rfl (Nat.le_of_ble_eq_true rfl) (d' := 0) (by decide) (c_X2_headsIn (l := x.2.1) v1 (zI h v3 (v2).toNatClampNeg) v3 h g33) ?_
                    refine V_iconst (pc := 67) (v := (1 : Int32)) dX10_valueOf_67 (by decide) ?_
                    refine V_icmp_ne (pc := 68) (tgt := 75) dX10_valueOf_68 (by decide) (fun c36 => ?_) (fun c36 => ?_)
                    · rw [if_neg c36] at e
                      refine V_pick [] rfl ?_
                      refine V_iconst (pc := 75) (v := (0 : Int32)) dX10_valueOf_75 (by decide) ?_
                      exact V_pick [] rfl (r_X10_valueOf_b76 (0 : Int32) h e hF)
                    · rw [if_pos c36] at e
                      refine V_pick [] rfl ?_
                      refine V_iconst (pc := 71) (v := (1 : Int32)) dX10_valueOf_71 (by decide) ?_
                      refine V_goto (pc := 72) (tgt := 76) dX10_valueOf_72 (by decide) ?_
                      exact V_pick [] rfl (r_X10_valueOf_b76 (1 : Int32) h e hF)
                  · rw [if_neg c37] at e
                    refine V_tableOut (pc := 12) (tgt := 140) dX10_valueOf_12 (by have q0 := tI_ne c3 (z := -15) (by decide); have q1 := tI_ne c9 (z := -14) (by decide); have q2 := tI_ne c13 (z := -13) (by decide); have q3 := tI_ne c17 (z := -12) (by decide); have q4 := tI_ne c23 (z := -11) (by decide); have q5 := tI_ne c29 (z := -10) (by decide); have q6 := tI_ne c32 (z := -9) (by decide); have q7 := tI_ne c37 (z := -8) (by decide); omega) (by decide) ?_
                    refine V_pick [1, 2, 4, 0] rfl ?_
                    refine V_bipush (pc := 140) (v := (-16 : Int32)) dX10_valueOf_140 (by decide) ?_
                    refine V_iload_n (pc := 142) (i := 0) dX10_valueOf_142 rfl rfl ?_
                    refine V_isub (pc := 143) dX10_valueOf_143 ?_
                    refine V_istore (pc := 144) (i := 5) (lv' := [(5, .int ((-16 : Int32) - v0)), (0, .int v0), (1, .ref v1), (3, .ref v3), (4, .int (zI h v3 (v2).toNatClampNeg))]) dX10_valueOf_144 (by decide) rfl ?_
                    refine V_aload_n (pc := 146) (i := 1) dX10_valueOf_146 rfl rfl ?_
                    refine V_iload (pc := 147) (i := 5) dX10_valueOf_147 rfl ?_
                    obtain ⟨r39, g38, e⟩ := ob_some e
                    obtain ⟨g40, e⟩ := gd_some e
                    refine V_callV (pc := 149) (bc := 0) (bs := 0) (mc := 0) (ms := 0) (st := []) (As := [.int ((-16 : Int32) - v0)]) (a := v1) (h' := h) (r := some (.int r39)) dX10_valueOf_149 ml_X10_149 (ci := 2) rfl (of_decide_eq_true g40) rfl rfl (Nat.le_of_ble_eq_true rfl) (d' := 0) (by decide) (c_X2_hasGuest (l := x.2.1) v1 ((-16 : Int32) - v0) h g38) ?_
                    refine V_if_eq (pc := 152) (tgt := 168) dX10_valueOf_152 (by decide) (fun c43 => ?_) (fun c43 => ?_)
                    · rw [if_pos c43] at e
                      exact V_pick [] rfl (r_X10_valueOf_b168 h e hF)
                    · rw [if_neg c43] at e
                      refine V_pick [3, 4, 0] rfl ?_
                      refine V_aload_n (pc := 155) (i := 3) dX10_valueOf_155 rfl rfl ?_
                      refine V_iload (pc := 156) (i := 5) dX10_valueOf_156 rfl ?_
                      obtain ⟨g41, e⟩ := gd_some e
                      refine V_iald (pc := 158) dX10_valueOf_158 (of_decide_eq_true g1) (ix_in g41) ?_
                      refine V_iload (pc := 159) (i := 4) dX10_valueOf_159 rfl ?_
                      refine V_icmp_ne (pc := 161) (tgt := 168) dX10_valueOf_161 (by decide) (fun c42 => ?_) (fun c42 => ?_)
                      · rw [if_neg c42] at e
                        exact V_pick [] rfl (r_X10_valueOf_b168 h e hF)
                      · rw [if_pos c42] at e
                        refine V_pick [] rfl ?_
                        refine V_iconst (pc := 164) (v := (1 : Int32)) dX10_valueOf_164 (by decide) ?_
                        refine V_goto (pc := 165) (tgt := 169) dX10_valueOf_165 (by decide) ?_
                        exact V_pick [] rfl (r_X10_valueOf_b169 (1 : Int32) h e hF)
  · rw [if_neg c44] at e
    refine V_pick [0] rfl ?_
    refine V_iload_n (pc := 4) (i := 0) dX10_valueOf_4 rfl rfl ?_
    cases e
    exact V_iret (pc := 5) dX10_valueOf_5 hF
def F_X10_valueOf (v0 : Int32) (v1 : Nat) (v2 : Int32) (v3 : Nat) (h : Hp) : Option Int32 := F_X10_valueOf_b0 v0 v1 v2 v3 h
theorem c_X10_valueOf {l : Launch} (v0 : Int32) (v1 : Nat) (v2 : Int32) (v3 : Nat) (h : Hp) {r : Int32} (e : F_X10_valueOf v0 v1 v2 v3 h = some r) : Ct l yX10_valueOf M_X10_valueOf (some .int) 2 [.int v0, .ref v1, .int v2, .ref v3] h 0 0 (some (.int r)) h :=
  Ct_of rfl rfl (fun q => by cases q) (Nat.le_of_ble_eq_true rfl) (fun x _ hF => V_pick [0, 1, 2, 3] rfl (r_X10_valueOf_b0 v0 v1 v2 v3 h e hF))
theorem dJ7_fill_53178_0 : decode cJ7_fill_53178 0 = .ok (.iconst 0, 1) := by decide +kernel
theorem dJ7_fill_53178_1 : decode cJ7_fill_53178 1 = .ok (.istore_n 2, 1) := by decide +kernel
theorem dJ7_fill_53178_2 : decode cJ7_fill_53178 2 = .ok (.aload_n 0, 1) := by decide +kernel
theorem dJ7_fill_53178_3 : decode cJ7_fill_53178 3 = .ok (.arraylength, 1) := by decide +kernel
theorem dJ7_fill_53178_4 : decode cJ7_fill_53178 4 = .ok (.istore_n 3, 1) := by decide +kernel
theorem dJ7_fill_53178_5 : decode cJ7_fill_53178 5 = .ok (.iload_n 2, 1) := by decide +kernel
theorem dJ7_fill_53178_6 : decode cJ7_fill_53178 6 = .ok (.iload_n 3, 1) := by decide +kernel
theorem dJ7_fill_53178_7 : decode cJ7_fill_53178 7 = .ok (.if_icmp .ge 13, 3) := by decide +kernel
theorem dJ7_fill_53178_10 : decode cJ7_fill_53178 10 = .ok (.aload_n 0, 1) := by decide +kernel
theorem dJ7_fill_53178_11 : decode cJ7_fill_53178 11 = .ok (.iload_n 2, 1) := by decide +kernel
theorem dJ7_fill_53178_12 : decode cJ7_fill_53178 12 = .ok (.iload_n 1, 1) := by decide +kernel
theorem dJ7_fill_53178_13 : decode cJ7_fill_53178 13 = .ok (.iastore, 1) := by decide +kernel
theorem dJ7_fill_53178_14 : decode cJ7_fill_53178 14 = .ok (.iinc 2 1, 3) := by decide +kernel
theorem dJ7_fill_53178_17 : decode cJ7_fill_53178 17 = .ok (.goto (-12), 3) := by decide +kernel
theorem dJ7_fill_53178_20 : decode cJ7_fill_53178 20 = .ok (.return_, 1) := by decide +kernel
set_option maxRecDepth 100000 in
def F_J7_fill_53178_l5 (v0 : Nat) (v1 : Int32) (v2 : Int32) (v3 : Int32) (h : Hp) : Option ((Int32 × Hp) ⊕ Hp) :=
  (if v3 ≤ v2 then some (.inr h) else gd (decide (kd h v0 = 13)) <| gd (ix v2 (zl h v0)) <| some (.inl (v2 + (1 : Int32), setI h v0 (v2).toNatClampNeg v1)))
set_option maxHeartbeats 4000000 in
set_option maxRecDepth 100000 in
theorem r_J7_fill_53178_l5 (v0 : Nat) (v1 : Int32) (v2 : Int32) (v3 : Int32) (h : Hp) {x : Cx} {o : ((Int32 × Hp) ⊕ Hp)} (e : F_J7_fill_53178_l5 v0 v1 v2 v3 h = some o) (kI : ∀ z, o = .inl z → V M_J7_fill_53178 x 0 5 [(0, .ref v0), (1, .int v1), (2, .int z.1), (3, .int v3)] [] z.2 0 0) (kE20 : ∀ z : Hp, o = .inr z → V M_J7_fill_53178 x 0 20 [] [] z 0 0) : V M_J7_fill_53178 x 0 5 [(0, .ref v0), (1, .int v1), (2, .int v2), (3, .int v3)] [] h 0 0 := by
  unfold F_J7_fill_53178_l5 at e
  refine V_iload_n (pc := 5) (i := 2) dJ7_fill_53178_5 rfl rfl ?_
  refine V_iload_n (pc := 6) (i := 3) dJ7_fill_53178_6 rfl rfl ?_
  refine V_icmp_ge (pc := 7) (tgt := 20) dJ7_fill_53178_7 (by decide) (fun c4 => ?_) (fun c4 => ?_)
  · rw [if_pos c4] at e
    cases e
    exact V_pick [] rfl (kE20 _ rfl)
  · rw [if_neg c4] at e
    refine V_pick [0, 1, 2, 3] rfl ?_
    refine V_aload_n (pc := 10) (i := 0) dJ7_fill_53178_10 rfl rfl ?_
    refine V_iload_n (pc := 11) (i := 2) dJ7_fill_53178_11 rfl rfl ?_
    refine V_iload_n (pc := 12) (i := 1) dJ7_fill_53178_12 rfl rfl ?_
    obtain ⟨g2, e⟩ := gd_some e
    obtain ⟨g3, e⟩ := gd_some e
    refine V_iast (pc := 13) dJ7_fill_53178_13 (of_decide_eq_true g2) (ix_in g3) ?_
    refine V_iinc (pc := 14) (i := 2) (u := v2 + (1 : Int32)) (lv' := [(2, .int (v2 + (1 : Int32))), (0, .ref v0), (1, .int v1), (3, .int v3)]) dJ7_fill_53178_14 rfl rfl (by decide) rfl ?_
    refine V_goto (pc := 17) (tgt := 5) dJ7_fill_53178_17 (by decide) ?_
    cases e
    exact V_pick [1, 2, 0, 3] rfl (kI _ rfl)
set_option maxRecDepth 100000 in
def F_J7_fill_53178_b0 (v0 : Nat) (v1 : Int32) (h : Hp) : Option (Unit × Hp) :=
  gd (decide (kd h v0 = 13)) <| ob (iter (fun z : Int32 × Hp => F_J7_fill_53178_l5 v0 v1 z.1 (Int32.ofNat (zl h v0)) z.2) FU ((0 : Int32), h)) (fun h5 => some ((), h5))
set_option maxHeartbeats 4000000 in
set_option maxRecDepth 100000 in
theorem r_J7_fill_53178_b0 (v0 : Nat) (v1 : Int32) (h : Hp) {x : Cx} {r : Unit} {hz : Hp} (e : F_J7_fill_53178_b0 v0 v1 h = some (r, hz)) (hF : Fin9 M_J7_fill_53178 x none none hz) : V M_J7_fill_53178 x 0 0 [(0, .ref v0), (1, .int v1)] [] h 0 0 := by
  unfold F_J7_fill_53178_b0 at e
  refine V_iconst (pc := 0) (v := (0 : Int32)) dJ7_fill_53178_0 (by decide) ?_
  refine V_istore_n (pc := 1) (i := 2) (lv' := [(2, .int (0 : Int32)), (0, .ref v0), (1, .int v1)]) dJ7_fill_53178_1 rfl (by decide) rfl ?_
  refine V_aload_n (pc := 2) (i := 0) dJ7_fill_53178_2 rfl rfl ?_
  obtain ⟨g1, e⟩ := gd_some e
  refine V_alen (pc := 3) (k := 13) dJ7_fill_53178_3 (of_decide_eq_true g1) (by decide) ?_
  refine V_istore_n (pc := 4) (i := 3) (lv' := [(3, .int (Int32.ofNat (zl h v0))), (2, .int (0 : Int32)), (0, .ref v0), (1, .int v1)]) dJ7_fill_53178_4 rfl (by decide) rfl ?_
  refine V_pick [2, 3, 1, 0] rfl ?_
  obtain ⟨y6, g7, e⟩ := ob_some e
  refine iter_V (P := fun z : Int32 × Hp => V M_J7_fill_53178 x 0 5 [(0, .ref v0), (1, .int v1), (2, .int z.1), (3, .int (Int32.ofNat (zl h v0)))] [] z.2 0 0) (E := fun z : Hp => V M_J7_fill_53178 x 0 20 [] [] z 0 0) (fun z o e9 k1 k2 => r_J7_fill_53178_l5 v0 v1 z.1 (Int32.ofNat (zl h v0)) z.2 e9 (fun z hz9 => k1 z hz9) (fun z hz9 => k2 _ hz9)) _ _ _ g7 ?_
  clear g7
  obtain ⟨h5, rfl⟩ : ∃ q, q = y6 := ⟨_, rfl⟩
  replace e : (some ((), h5)) = some (r, hz) := e
  show V M_J7_fill_53178 x 0 20 [] [] h5 0 0
  cases e
  exact V_vret (pc := 20) dJ7_fill_53178_20 hF
def F_J7_fill_53178 (v0 : Nat) (v1 : Int32) (h : Hp) : Option (Unit × Hp) := F_J7_fill_53178_b0 v0 v1 h
theorem c_J7_fill_53178 {l : Launch} (v0 : Nat) (v1 : Int32) (h : Hp) {r : Unit} {hz : Hp} (e : F_J7_fill_53178 v0 v1 h = some (r, hz)) : Ct l yJ7_fill_53178 M_J7_fill_53178 none 0 [.ref v0, .int v1] h 0 0 none hz :=
  Ct_of rfl rfl (fun q => by cases q) (Nat.le_of_ble_eq_true rfl) (fun x _ hF => V_pick [0, 1] rfl (r_J7_fill_53178_b0 v0 v1 h e hF))
theorem dX11_feed_0 : decode cX11_feed 0 = .ok (.aload_n 0, 1) := by decide +kernel
theorem dX11_feed_1 : decode cX11_feed 1 = .ok (.getfield 10, 3) := by decide +kernel
theorem dX11_feed_4 : decode cX11_feed 4 = .ok (.getfield 75, 3) := by decide +kernel
theorem dX11_feed_7 : decode cX11_feed 7 = .ok (.bipush 20, 2) := by decide +kernel
theorem dX11_feed_9 : decode cX11_feed 9 = .ok (.iadd, 1) := by decide +kernel
theorem dX11_feed_10 : decode cX11_feed 10 = .ok (.sipush 400, 3) := by decide +kernel
theorem dX11_feed_13 : decode cX11_feed 13 = .ok (.if_icmp .le 5, 3) := by decide +kernel
theorem dX11_feed_16 : decode cX11_feed 16 = .ok (.iconst (-1), 1) := by decide +kernel
theorem dX11_feed_17 : decode cX11_feed 17 = .ok (.ireturn, 1) := by decide +kernel
theorem dX11_feed_18 : decode cX11_feed 18 = .ok (.aload_n 0, 1) := by decide +kernel
theorem dX11_feed_19 : decode cX11_feed 19 = .ok (.getfield 10, 3) := by decide +kernel
theorem dX11_feed_22 : decode cX11_feed 22 = .ok (.iload_n 1, 1) := by decide +kernel
theorem dX11_feed_23 : decode cX11_feed 23 = .ok (.invokevirtual 79, 3) := by decide +kernel
theorem dX11_feed_26 : decode cX11_feed 26 = .ok (.aload_n 0, 1) := by decide +kernel
theorem dX11_feed_27 : decode cX11_feed 27 = .ok (.getfield 10, 3) := by decide +kernel
theorem dX11_feed_30 : decode cX11_feed 30 = .ok (.iload_n 2, 1) := by decide +kernel
theorem dX11_feed_31 : decode cX11_feed 31 = .ok (.invokevirtual 79, 3) := by decide +kernel
theorem dX11_feed_34 : decode cX11_feed 34 = .ok (.aload_n 0, 1) := by decide +kernel
theorem dX11_feed_35 : decode cX11_feed 35 = .ok (.getfield 10, 3) := by decide +kernel
theorem dX11_feed_38 : decode cX11_feed 38 = .ok (.iload_n 3, 1) := by decide +kernel
theorem dX11_feed_39 : decode cX11_feed 39 = .ok (.invokevirtual 79, 3) := by decide +kernel
theorem dX11_feed_42 : decode cX11_feed 42 = .ok (.aload_n 0, 1) := by decide +kernel
theorem dX11_feed_43 : decode cX11_feed 43 = .ok (.getfield 10, 3) := by decide +kernel
theorem dX11_feed_46 : decode cX11_feed 46 = .ok (.iload 4, 2) := by decide +kernel
theorem dX11_feed_48 : decode cX11_feed 48 = .ok (.invokevirtual 79, 3) := by decide +kernel
theorem dX11_feed_51 : decode cX11_feed 51 = .ok (.aload_n 0, 1) := by decide +kernel
theorem dX11_feed_52 : decode cX11_feed 52 = .ok (.getfield 10, 3) := by decide +kernel
theorem dX11_feed_55 : decode cX11_feed 55 = .ok (.iload 5, 2) := by decide +kernel
theorem dX11_feed_57 : decode cX11_feed 57 = .ok (.invokevirtual 79, 3) := by decide +kernel
theorem dX11_feed_60 : decode cX11_feed 60 = .ok (.aload_n 0, 1) := by decide +kernel
theorem dX11_feed_61 : decode cX11_feed 61 = .ok (.getfield 10, 3) := by decide +kernel
theorem dX11_feed_64 : decode cX11_feed 64 = .ok (.getfield 75, 3) := by decide +kernel
theorem dX11_feed_67 : decode cX11_feed 67 = .ok (.ireturn, 1) := by decide +kernel
set_option maxRecDepth 100000 in
def F_X11_feed_b0 (v0 : Nat) (v1 : Int32) (v2 : Int32) (v3 : Int32) (v4 : Int32) (v5 : Int32) (h : Hp) : Option (Int32 × Hp) :=
  gd (decide (kd h v0 = 10)) <| ob (zR h v0 0) fun q2 => gd (decide (kd h q2 = 6)) <| (if ((zI h q2 1) + (20 : Int32)) ≤ (400 : Int32) then ob (zR h v0 0) fun q5 => ob2 (F_X6_append q5 v1 h) fun _ h9 => gd (decide (kd h q5 = 6)) <| gd (decide (kd h9 v0 = 10)) <| ob (zR h9 v0 0) fun q12 => ob2 (F_X6_append q12 v2 h9) fun _ h16 => gd (decide (kd h9 q12 = 6)) <| gd (decide (kd h16 v0 = 10)) <| ob (zR h16 v0 0) fun q19 => ob2 (F_X6_append q19 v3 h16) fun _ h23 => gd (decide (kd h16 q19 = 6)) <| gd (decide (kd h23 v0 = 10)) <| ob (zR h23 v0 0) fun q26 => ob2 (F_X6_append q26 v4 h23) fun _ h30 => gd (decide (kd h23 q26 = 6)) <| gd (decide (kd h30 v0 = 10)) <| ob (zR h30 v0 0) fun q33 => ob2 (F_X6_append q33 v5 h30) fun _ h37 => gd (decide (kd h30 q33 = 6)) <| gd (decide (kd h37 v0 = 10)) <| ob (zR h37 v0 0) fun q40 => gd (decide (kd h37 q40 = 6)) <| some (zI h37 q40 1, h37) else some ((-1 : Int32), h))
set_option maxHeartbeats 4000000 in
set_option maxRecDepth 100000 in
theorem r_X11_feed_b0 (v0 : Nat) (v1 : Int32) (v2 : Int32) (v3 : Int32) (v4 : Int32) (v5 : Int32) (h : Hp) {x : Cx} {r : Int32} {hz : Hp} (e : F_X11_feed_b0 v0 v1 v2 v3 v4 v5 h = some (r, hz)) (hF : Fin9 M_X11_feed x (some .int) (some (.int r)) hz) : V M_X11_feed x 1 0 [(0, .ref v0), (1, .int v1), (2, .int v2), (3, .int v3), (4, .int v4), (5, .int v5)] [] h 0 0 := by
  unfold F_X11_feed_b0 at e
  refine V_aload_n (pc := 0) (i := 0) dX11_feed_0 rfl rfl ?_
  obtain ⟨g1, e⟩ := gd_some e
  obtain ⟨q2, g3, e⟩ := ob_some e
  refine V_getR (pc := 1) (ci := 10) (k := 0) (b := q2) dX11_feed_1 fl_X11_10 rfl (of_decide_eq_true g1) g3 ?_
  obtain ⟨g4, e⟩ := gd_some e
  refine V_getI (pc := 4) (ci := 6) (k := 1) dX11_feed_4 fl_X11_75 rfl (of_decide_eq_true g4) ?_
  refine V_bipush (pc := 7) (v := (20 : Int32)) dX11_feed_7 (by decide) ?_
  refine V_iadd (pc := 9) dX11_feed_9 ?_
  refine V_sipush (pc := 10) (v := (400 : Int32)) dX11_feed_10 (by decide) ?_
  refine V_icmp_le (pc := 13) (tgt := 18) dX11_feed_13 (by decide) (fun c43 => ?_) (fun c43 => ?_)
  · rw [if_pos c43] at e
    refine V_pick [0, 1, 2, 3, 4, 5] rfl ?_
    refine V_aload_n (pc := 18) (i := 0) dX11_feed_18 rfl rfl ?_
    obtain ⟨q5, g6, e⟩ := ob_some e
    refine V_getR (pc := 19) (ci := 10) (k := 0) (b := q5) dX11_feed_19 fl_X11_10 rfl (of_decide_eq_true g1) g6 ?_
    refine V_iload_n (pc := 22) (i := 1) dX11_feed_22 rfl rfl ?_
    obtain ⟨r8, h9, g7, e⟩ := ob2_some e
    obtain ⟨g10, e⟩ := gd_some e
    refine V_callV (pc := 23) (bc := 0) (bs := 0) (mc := 0) (ms := 0) (st := []) (As := [.int v1]) (a := q5) (h' := h9) (r := none) dX11_feed_23 ml_X11_79 (ci := 6) rfl (of_decide_eq_true g10) rfl rfl (Nat.le_of_ble_eq_true rfl) (d' := 0) (by decide) (c_X6_append (l := x.2.1) q5 v1 h g7) ?_
    refine V_aload_n (pc := 26) (i := 0) dX11_feed_26 rfl rfl ?_
    obtain ⟨g11, e⟩ := gd_some e
    obtain ⟨q12, g13, e⟩ := ob_some e
    refine V_getR (pc := 27) (ci := 10) (k := 0) (b := q12) dX11_feed_27 fl_X11_10 rfl (of_decide_eq_true g11) g13 ?_
    refine V_iload_n (pc := 30) (i := 2) dX11_feed_30 rfl rfl ?_
    obtain ⟨r15, h16, g14, e⟩ := ob2_some e
    obtain ⟨g17, e⟩ := gd_some e
    refine V_callV (pc := 31) (bc := 0) (bs := 0) (mc := 0) (ms := 0) (st := []) (As := [.int v2]) (a := q12) (h' := h16) (r := none) dX11_feed_31 ml_X11_79 (ci := 6) rfl (of_decide_eq_true g17) rfl rfl (Nat.le_of_ble_eq_true rfl) (d' := 0) (by decide) (c_X6_append (l := x.2.1) q12 v2 h9 g14) ?_
    refine V_aload_n (pc := 34) (i := 0) dX11_feed_34 rfl rfl ?_
    obtain ⟨g18, e⟩ := gd_some e
    obtain ⟨q19, g20, e⟩ := ob_some e
    refine V_getR (pc := 35) (ci := 10) (k := 0) (b := q19) dX11_feed_35 fl_X11_10 rfl (of_decide_eq_true g18) g20 ?_
    refine V_iload_n (pc := 38) (i := 3) dX11_feed_38 rfl rfl ?_
    obtain ⟨r22, h23, g21, e⟩ := ob2_some e
    obtain ⟨g24, e⟩ := gd_some e
    refine V_callV (pc := 39) (bc := 0) (bs := 0) (mc := 0) (ms := 0) (st := []) (As := [.int v3]) (a := q19) (h' := h23) (r := none) dX11_feed_39 ml_X11_79 (ci := 6) rfl (of_decide_eq_true g24) rfl rfl (Nat.le_of_ble_eq_true rfl) (d' := 0) (by decide) (c_X6_append (l := x.2.1) q19 v3 h16 g21) ?_
    refine V_aload_n (pc := 42) (i := 0) dX11_feed_42 rfl rfl ?_
    obtain ⟨g25, e⟩ := gd_some e
    obtain ⟨q26, g27, e⟩ := ob_some e
    refine V_getR (pc := 43) (ci := 10) (k := 0) (b := q26) dX11_feed_43 fl_X11_10 rfl (of_decide_eq_true g25) g27 ?_
    refine V_iload (pc := 46) (i := 4) dX11_feed_46 rfl ?_
    obtain ⟨r29, h30, g28, e⟩ := ob2_some e
    obtain ⟨g31, e⟩ := gd_some e
    refine V_callV (pc := 48) (bc := 0) (bs := 0) (mc := 0) (ms := 0) (st := []) (As := [.int v4]) (a := q26) (h' := h30) (r := none) dX11_feed_48 ml_X11_79 (ci := 6) rfl (of_decide_eq_true g31) rfl rfl (Nat.le_of_ble_eq_true rfl) (d' := 0) (by decide) (c_X6_append (l := x.2.1) q26 v4 h23 g28) ?_
    refine V_aload_n (pc := 51) (i := 0) dX11_feed_51 rfl rfl ?_
    obtain ⟨g32, e⟩ := gd_some e
    obtain ⟨q33, g34, e⟩ := ob_some e
    refine V_getR (pc := 52) (ci := 10) (k := 0) (b := q33) dX11_feed_52 fl_X11_10 rfl (of_decide_eq_true g32) g34 ?_
    refine V_iload (pc := 55) (i := 5) dX11_feed_55 rfl ?_
    obtain ⟨r36, h37, g35, e⟩ := ob2_some e
    obtain ⟨g38, e⟩ := gd_some e
    refine V_callV (pc := 57) (bc := 0) (bs := 0) (mc := 0) (ms := 0) (st := []) (As := [.int v5]) (a := q33) (h' := h37) (r := none) dX11_feed_57 ml_X11_79 (ci := 6) rfl (of_decide_eq_true g38) rfl rfl (Nat.le_of_ble_eq_true rfl) (d' := 0) (by decide) (c_X6_append (l := x.2.1) q33 v5 h30 g35) ?_
    refine V_aload_n (pc := 60) (i := 0) dX11_feed_60 rfl rfl ?_
    obtain ⟨g39, e⟩ := gd_some e
    obtain ⟨q40, g41, e⟩ := ob_some e
    refine V_getR (pc := 61) (ci := 10) (k := 0) (b := q40) dX11_feed_61 fl_X11_10 rfl (of_decide_eq_true g39) g41 ?_
    obtain ⟨g42, e⟩ := gd_some e
    refine V_getI (pc := 64) (ci := 6) (k := 1) dX11_feed_64 fl_X11_75 rfl (of_decide_eq_true g42) ?_
    cases e
    exact V_iret (pc := 67) dX11_feed_67 hF
  · rw [if_neg c43] at e
    refine V_pick [] rfl ?_
    refine V_iconst (pc := 16) (v := (-1 : Int32)) dX11_feed_16 (by decide) ?_
    cases e
    exact V_iret (pc := 17) dX11_feed_17 hF
def F_X11_feed (v0 : Nat) (v1 : Int32) (v2 : Int32) (v3 : Int32) (v4 : Int32) (v5 : Int32) (h : Hp) : Option (Int32 × Hp) := F_X11_feed_b0 v0 v1 v2 v3 v4 v5 h
theorem c_X11_feed {l : Launch} (v0 : Nat) (v1 : Int32) (v2 : Int32) (v3 : Int32) (v4 : Int32) (v5 : Int32) (h : Hp) {r : Int32} {hz : Hp} (e : F_X11_feed v0 v1 v2 v3 v4 v5 h = some (r, hz)) : Ct l yX11_feed M_X11_feed (some .int) 1 [.ref v0, .int v1, .int v2, .int v3, .int v4, .int v5] h 0 0 (some (.int r)) hz :=
  Ct_of rfl rfl (fun q => by cases q) (Nat.le_of_ble_eq_true rfl) (fun x _ hF => V_pick [0, 1, 2, 3, 4, 5] rfl (r_X11_feed_b0 v0 v1 v2 v3 v4 v5 h e hF))
theorem dX11_seating_0 : decode cX11_seating 0 = .ok (.aload_n 0, 1) := by decide +kernel
theorem dX11_seating_1 : decode cX11_seating 1 = .ok (.getfield 19, 3) := by decide +kernel
theorem dX11_seating_4 : decode cX11_seating 4 = .ok (.aload_n 0, 1) := by decide +kernel
theorem dX11_seating_5 : decode cX11_seating 5 = .ok (.getfield 19, 3) := by decide +kernel
theorem dX11_seating_8 : decode cX11_seating 8 = .ok (.getfield 166, 3) := by decide +kernel
theorem dX11_seating_11 : decode cX11_seating 11 = .ok (.invokevirtual 217, 3) := by decide +kernel
theorem dX11_seating_14 : decode cX11_seating 14 = .ok (.ireturn, 1) := by decide +kernel
set_option maxRecDepth 100000 in
def F_X11_seating_b0 (v0 : Nat) (h : Hp) : Option Int32 :=
  gd (decide (kd h v0 = 10)) <| ob (zR h v0 1) fun q2 => ob (zR h v0 1) fun q4 => gd (decide (kd h q4 = 2)) <| ob (zR h q4 7) fun q7 => ob (F_X2_asNumber q2 q7 h) fun r10 => gd (decide (kd h q2 = 2)) <| some r10
set_option maxHeartbeats 4000000 in
set_option maxRecDepth 100000 in
theorem r_X11_seating_b0 (v0 : Nat) (h : Hp) {x : Cx} {r : Int32} (e : F_X11_seating_b0 v0 h = some r) (hF : Fin9 M_X11_seating x (some .int) (some (.int r)) h) : V M_X11_seating x 1 0 [(0, .ref v0)] [] h 0 0 := by
  unfold F_X11_seating_b0 at e
  refine V_aload_n (pc := 0) (i := 0) dX11_seating_0 rfl rfl ?_
  obtain ⟨g1, e⟩ := gd_some e
  obtain ⟨q2, g3, e⟩ := ob_some e
  refine V_getR (pc := 1) (ci := 10) (k := 1) (b := q2) dX11_seating_1 fl_X11_19 rfl (of_decide_eq_true g1) g3 ?_
  refine V_aload_n (pc := 4) (i := 0) dX11_seating_4 rfl rfl ?_
  obtain ⟨q4, g5, e⟩ := ob_some e
  refine V_getR (pc := 5) (ci := 10) (k := 1) (b := q4) dX11_seating_5 fl_X11_19 rfl (of_decide_eq_true g1) g5 ?_
  obtain ⟨g6, e⟩ := gd_some e
  obtain ⟨q7, g8, e⟩ := ob_some e
  refine V_getR (pc := 8) (ci := 2) (k := 7) (b := q7) dX11_seating_8 fl_X11_166 rfl (of_decide_eq_true g6) g8 ?_
  obtain ⟨r10, g9, e⟩ := ob_some e
  obtain ⟨g11, e⟩ := gd_some e
  refine V_callV (pc := 11) (bc := 0) (bs := 0) (mc := 0) (ms := 0) (st := []) (As := [.ref q7]) (a := q2) (h' := h) (r := some (.int r10)) dX11_seating_11 ml_X11_217 (ci := 2) rfl (of_decide_eq_true g11) rfl rfl (Nat.le_of_ble_eq_true rfl) (d' := 0) (by decide) (c_X2_asNumber (l := x.2.1) q2 q7 h g9) ?_
  cases e
  exact V_iret (pc := 14) dX11_seating_14 hF
def F_X11_seating (v0 : Nat) (h : Hp) : Option Int32 := F_X11_seating_b0 v0 h
theorem c_X11_seating {l : Launch} (v0 : Nat) (h : Hp) {r : Int32} (e : F_X11_seating v0 h = some r) : Ct l yX11_seating M_X11_seating (some .int) 1 [.ref v0] h 0 0 (some (.int r)) h :=
  Ct_of rfl rfl (fun q => by cases q) (Nat.le_of_ble_eq_true rfl) (fun x _ hF => V_pick [0] rfl (r_X11_seating_b0 v0 h e hF))
theorem dX11_isUnnoticed_0 : decode cX11_isUnnoticed 0 = .ok (.iload 4, 2) := by decide +kernel
theorem dX11_isUnnoticed_2 : decode cX11_isUnnoticed 2 = .ok (.aload_n 0, 1) := by decide +kernel
theorem dX11_isUnnoticed_3 : decode cX11_isUnnoticed 3 = .ok (.getfield 19, 3) := by decide +kernel
theorem dX11_isUnnoticed_6 : decode cX11_isUnnoticed 6 = .ok (.getfield 299, 3) := by decide +kernel
theorem dX11_isUnnoticed_9 : decode cX11_isUnnoticed 9 = .ok (.if_icmp .ge 30, 3) := by decide +kernel
theorem dX11_isUnnoticed_12 : decode cX11_isUnnoticed 12 = .ok (.iload_n 3, 1) := by decide +kernel
theorem dX11_isUnnoticed_13 : decode cX11_isUnnoticed 13 = .ok (.aload_n 0, 1) := by decide +kernel
theorem dX11_isUnnoticed_14 : decode cX11_isUnnoticed 14 = .ok (.getfield 19, 3) := by decide +kernel
theorem dX11_isUnnoticed_17 : decode cX11_isUnnoticed 17 = .ok (.getfield 166, 3) := by decide +kernel
theorem dX11_isUnnoticed_20 : decode cX11_isUnnoticed 20 = .ok (.iload_n 1, 1) := by decide +kernel
theorem dX11_isUnnoticed_21 : decode cX11_isUnnoticed 21 = .ok (.iaload, 1) := by decide +kernel
theorem dX11_isUnnoticed_22 : decode cX11_isUnnoticed 22 = .ok (.if_icmp .ne 19, 3) := by decide +kernel
theorem dX11_isUnnoticed_25 : decode cX11_isUnnoticed 25 = .ok (.iload 4, 2) := by decide +kernel
theorem dX11_isUnnoticed_27 : decode cX11_isUnnoticed 27 = .ok (.aload_n 0, 1) := by decide +kernel
theorem dX11_isUnnoticed_28 : decode cX11_isUnnoticed 28 = .ok (.getfield 19, 3) := by decide +kernel
theorem dX11_isUnnoticed_31 : decode cX11_isUnnoticed 31 = .ok (.getfield 166, 3) := by decide +kernel
theorem dX11_isUnnoticed_34 : decode cX11_isUnnoticed 34 = .ok (.iload_n 2, 1) := by decide +kernel
theorem dX11_isUnnoticed_35 : decode cX11_isUnnoticed 35 = .ok (.iaload, 1) := by decide +kernel
theorem dX11_isUnnoticed_36 : decode cX11_isUnnoticed 36 = .ok (.if_icmp .ne 5, 3) := by decide +kernel
theorem dX11_isUnnoticed_39 : decode cX11_isUnnoticed 39 = .ok (.iconst 0, 1) := by decide +kernel
theorem dX11_isUnnoticed_40 : decode cX11_isUnnoticed 40 = .ok (.ireturn, 1) := by decide +kernel
theorem dX11_isUnnoticed_41 : decode cX11_isUnnoticed 41 = .ok (.aload_n 0, 1) := by decide +kernel
theorem dX11_isUnnoticed_42 : decode cX11_isUnnoticed 42 = .ok (.getfield 19, 3) := by decide +kernel
theorem dX11_isUnnoticed_45 : decode cX11_isUnnoticed 45 = .ok (.iload_n 1, 1) := by decide +kernel
theorem dX11_isUnnoticed_46 : decode cX11_isUnnoticed 46 = .ok (.iload_n 3, 1) := by decide +kernel
theorem dX11_isUnnoticed_47 : decode cX11_isUnnoticed 47 = .ok (.aload_n 0, 1) := by decide +kernel
theorem dX11_isUnnoticed_48 : decode cX11_isUnnoticed 48 = .ok (.getfield 19, 3) := by decide +kernel
theorem dX11_isUnnoticed_51 : decode cX11_isUnnoticed 51 = .ok (.getfield 149, 3) := by decide +kernel
theorem dX11_isUnnoticed_54 : decode cX11_isUnnoticed 54 = .ok (.invokevirtual 317, 3) := by decide +kernel
theorem dX11_isUnnoticed_57 : decode cX11_isUnnoticed 57 = .ok (.aload_n 0, 1) := by decide +kernel
theorem dX11_isUnnoticed_58 : decode cX11_isUnnoticed 58 = .ok (.getfield 19, 3) := by decide +kernel
theorem dX11_isUnnoticed_61 : decode cX11_isUnnoticed 61 = .ok (.iload_n 2, 1) := by decide +kernel
theorem dX11_isUnnoticed_62 : decode cX11_isUnnoticed 62 = .ok (.iload 4, 2) := by decide +kernel
theorem dX11_isUnnoticed_64 : decode cX11_isUnnoticed 64 = .ok (.aload_n 0, 1) := by decide +kernel
theorem dX11_isUnnoticed_65 : decode cX11_isUnnoticed 65 = .ok (.getfield 19, 3) := by decide +kernel
theorem dX11_isUnnoticed_68 : decode cX11_isUnnoticed 68 = .ok (.getfield 149, 3) := by decide +kernel
theorem dX11_isUnnoticed_71 : decode cX11_isUnnoticed 71 = .ok (.invokevirtual 317, 3) := by decide +kernel
theorem dX11_isUnnoticed_74 : decode cX11_isUnnoticed 74 = .ok (.iadd, 1) := by decide +kernel
theorem dX11_isUnnoticed_75 : decode cX11_isUnnoticed 75 = .ok (.ifCond .ne 44, 3) := by decide +kernel
theorem dX11_isUnnoticed_78 : decode cX11_isUnnoticed 78 = .ok (.aload_n 0, 1) := by decide +kernel
theorem dX11_isUnnoticed_79 : decode cX11_isUnnoticed 79 = .ok (.getfield 19, 3) := by decide +kernel
theorem dX11_isUnnoticed_82 : decode cX11_isUnnoticed 82 = .ok (.iload_n 1, 1) := by decide +kernel
theorem dX11_isUnnoticed_83 : decode cX11_isUnnoticed 83 = .ok (.iload_n 3, 1) := by decide +kernel
theorem dX11_isUnnoticed_84 : decode cX11_isUnnoticed 84 = .ok (.aload_n 0, 1) := by decide +kernel
theorem dX11_isUnnoticed_85 : decode cX11_isUnnoticed 85 = .ok (.getfield 19, 3) := by decide +kernel
theorem dX11_isUnnoticed_88 : decode cX11_isUnnoticed 88 = .ok (.getfield 153, 3) := by decide +kernel
theorem dX11_isUnnoticed_91 : decode cX11_isUnnoticed 91 = .ok (.invokevirtual 317, 3) := by decide +kernel
theorem dX11_isUnnoticed_94 : decode cX11_isUnnoticed 94 = .ok (.aload_n 0, 1) := by decide +kernel
theorem dX11_isUnnoticed_95 : decode cX11_isUnnoticed 95 = .ok (.getfield 19, 3) := by decide +kernel
theorem dX11_isUnnoticed_98 : decode cX11_isUnnoticed 98 = .ok (.iload_n 2, 1) := by decide +kernel
theorem dX11_isUnnoticed_99 : decode cX11_isUnnoticed 99 = .ok (.iload 4, 2) := by decide +kernel
theorem dX11_isUnnoticed_101 : decode cX11_isUnnoticed 101 = .ok (.aload_n 0, 1) := by decide +kernel
theorem dX11_isUnnoticed_102 : decode cX11_isUnnoticed 102 = .ok (.getfield 19, 3) := by decide +kernel
theorem dX11_isUnnoticed_105 : decode cX11_isUnnoticed 105 = .ok (.getfield 153, 3) := by decide +kernel
theorem dX11_isUnnoticed_108 : decode cX11_isUnnoticed 108 = .ok (.invokevirtual 317, 3) := by decide +kernel
theorem dX11_isUnnoticed_111 : decode cX11_isUnnoticed 111 = .ok (.iadd, 1) := by decide +kernel
theorem dX11_isUnnoticed_112 : decode cX11_isUnnoticed 112 = .ok (.ifCond .ne 7, 3) := by decide +kernel
theorem dX11_isUnnoticed_115 : decode cX11_isUnnoticed 115 = .ok (.iconst 1, 1) := by decide +kernel
theorem dX11_isUnnoticed_116 : decode cX11_isUnnoticed 116 = .ok (.goto 4, 3) := by decide +kernel
theorem dX11_isUnnoticed_119 : decode cX11_isUnnoticed 119 = .ok (.iconst 0, 1) := by decide +kernel
theorem dX11_isUnnoticed_120 : decode cX11_isUnnoticed 120 = .ok (.ireturn, 1) := by decide +kernel
set_option maxRecDepth 100000 in
def F_X11_isUnnoticed_b39  (h : Hp) : Option Int32 :=
  some (0 : Int32)
set_option maxHeartbeats 4000000 in
set_option maxRecDepth 100000 in
theorem r_X11_isUnnoticed_b39  (h : Hp) {x : Cx} {r : Int32} (e : F_X11_isUnnoticed_b39  h = some r) (hF : Fin9 M_X11_isUnnoticed x (some .boolean) (some (.int r)) h) : V M_X11_isUnnoticed x 1 39 [] [] h 0 0 := by
  unfold F_X11_isUnnoticed_b39 at e
  refine V_iconst (pc := 39) (v := (0 : Int32)) dX11_isUnnoticed_39 (by decide) ?_
  cases e
  exact V_zret (pc := 40) dX11_isUnnoticed_40 rfl hF
set_option maxRecDepth 100000 in
def F_X11_isUnnoticed_b120 (t0 : Int32) (h : Hp) : Option Int32 :=
  gd (decide (t0 = 0 ∨ t0 = 1)) <| some t0
set_option maxHeartbeats 4000000 in
set_option maxRecDepth 100000 in
theorem r_X11_isUnnoticed_b120 (t0 : Int32) (h : Hp) {x : Cx} {r : Int32} (e : F_X11_isUnnoticed_b120 t0 h = some r) (hF : Fin9 M_X11_isUnnoticed x (some .boolean) (some (.int r)) h) : V M_X11_isUnnoticed x 1 120 [] [.int t0] h 0 0 := by
  unfold F_X11_isUnnoticed_b120 at e
  obtain ⟨g33, e⟩ := gd_some e
  cases e
  exact V_zret (pc := 120) dX11_isUnnoticed_120 (z01 (of_decide_eq_true g33)) hF
set_option maxRecDepth 100000 in
def F_X11_isUnnoticed_b119  (h : Hp) : Option Int32 :=
  F_X11_isUnnoticed_b120 (0 : Int32) h
set_option maxHeartbeats 4000000 in
set_option maxRecDepth 100000 in
theorem r_X11_isUnnoticed_b119  (h : Hp) {x : Cx} {r : Int32} (e : F_X11_isUnnoticed_b119  h = some r) (hF : Fin9 M_X11_isUnnoticed x (some .boolean) (some (.int r)) h) : V M_X11_isUnnoticed x 1 119 [] [] h 0 0 := by
  unfold F_X11_isUnnoticed_b119 at e
  refine V_iconst (pc := 119) (v := (0 : Int32)) dX11_isUnnoticed_119 (by decide) ?_
  exact V_pick [] rfl (r_X11_isUnnoticed_b120 (0 : Int32) h e hF)
set_option maxRecDepth 100000 in
def F_X11_isUnnoticed_b41 (v0 : Nat) (v1 : Int32) (v2 : Int32) (v3 : Int32) (v4 : Int32) (h : Hp) : Option Int32 :=
  gd (decide (kd h v0 = 10)) <| ob (zR h v0 1) fun q13 => ob (zR h v0 1) fun q15 => gd (decide (kd h q15 = 2)) <| ob (zR h q15 1) fun q18 => ob (F_X2_gain q13 v1 v3 q18 h) fun r21 => gd (decide (kd h q13 = 2)) <| ob (zR h v0 1) fun q23 => ob (zR h v0 1) fun q25 => gd (decide (kd h q25 = 2)) <| ob (zR h q25 1) fun q28 => ob (F_X2_gain q23 v2 v4 q28 h) fun r31 => gd (decide (kd h q23 = 2)) <| (if (r21 + r31) = 0 then ob (zR h v0 1) fun q34 => ob (zR h v0 1) fun q36 => gd (decide (kd h q36 = 2)) <| ob (zR h q36 2) fun q39 => ob (F_X2_gain q34 v1 v3 q39 h) fun r42 => gd (decide (kd h q34 = 2)) <| ob (zR h v0 1) fun q44 => ob (zR h v0 1) fun q46 => gd (decide (kd h q46 = 2)) <| ob (zR h q46 2) fun q49 => ob (F_X2_gain q44 v2 v4 q49 h) fun r52 => gd (decide (kd h q44 = 2)) <| (if (r42 + r52) = 0 then F_X11_isUnnoticed_b120 (1 : Int32) h else F_X11_isUnnoticed_b119 h) else F_X11_isUnnoticed_b119 h)
set_option maxHeartbeats 4000000 in
set_option maxRecDepth 100000 in
theorem r_X11_isUnnoticed_b41 (v0 : Nat) (v1 : Int32) (v2 : Int32) (v3 : Int32) (v4 : Int32) (h : Hp) {x : Cx} {r : Int32} (e : F_X11_isUnnoticed_b41 v0 v1 v2 v3 v4 h = some r) (hF : Fin9 M_X11_isUnnoticed x (some .boolean) (some (.int r)) h) : V M_X11_isUnnoticed x 1 41 [(0, .ref v0), (1, .int v1), (2, .int v2), (3, .int v3), (4, .int v4)] [] h 0 0 := by
  unfold F_X11_isUnnoticed_b41 at e
  refine V_aload_n (pc := 41) (i := 0) dX11_isUnnoticed_41 rfl rfl ?_
  obtain ⟨g12, e⟩ := gd_some e
  obtain ⟨q13, g14, e⟩ := ob_some e
  refine V_getR (pc := 42) (ci := 10) (k := 1) (b := q13) dX11_isUnnoticed_42 fl_X11_19 rfl (of_decide_eq_true g12) g14 ?_
  refine V_iload_n (pc := 45) (i := 1) dX11_isUnnoticed_45 rfl rfl ?_
  refine V_iload_n (pc := 46) (i := 3) dX11_isUnnoticed_46 rfl rfl ?_
  refine V_aload_n (pc := 47) (i := 0) dX11_isUnnoticed_47 rfl rfl ?_
  obtain ⟨q15, g16, e⟩ := ob_some e
  refine V_getR (pc := 48) (ci := 10) (k := 1) (b := q15) dX11_isUnnoticed_48 fl_X11_19 rfl (of_decide_eq_true g12) g16 ?_
  obtain ⟨g17, e⟩ := gd_some e
  obtain ⟨q18, g19, e⟩ := ob_some e
  refine V_getR (pc := 51) (ci := 2) (k := 1) (b := q18) dX11_isUnnoticed_51 fl_X11_149 rfl (of_decide_eq_true g17) g19 ?_
  obtain ⟨r21, g20, e⟩ := ob_some e
  obtain ⟨g22, e⟩ := gd_some e
  refine V_callV (pc := 54) (bc := 0) (bs := 0) (mc := 0) (ms := 0) (st := []) (As := [.int v1, .int v3, .ref q18]) (a := q13) (h' := h) (r := some (.int r21)) dX11_isUnnoticed_54 ml_X11_317 (ci := 2) rfl (of_decide_eq_true g22) rfl rfl (Nat.le_of_ble_eq_true rfl) (d' := 0) (by decide) (c_X2_gain (l := x.2.1) q13 v1 v3 q18 h g20) ?_
  refine V_aload_n (pc := 57) (i := 0) dX11_isUnnoticed_57 rfl rfl ?_
  obtain ⟨q23, g24, e⟩ := ob_some e
  refine V_getR (pc := 58) (ci := 10) (k := 1) (b := q23) dX11_isUnnoticed_58 fl_X11_19 rfl (of_decide_eq_true g12) g24 ?_
  refine V_iload_n (pc := 61) (i := 2) dX11_isUnnoticed_61 rfl rfl ?_
  refine V_iload (pc := 62) (i := 4) dX11_isUnnoticed_62 rfl ?_
  refine V_aload_n (pc := 64) (i := 0) dX11_isUnnoticed_64 rfl rfl ?_
  obtain ⟨q25, g26, e⟩ := ob_some e
  refine V_getR (pc := 65) (ci := 10) (k := 1) (b := q25) dX11_isUnnoticed_65 fl_X11_19 rfl (of_decide_eq_true g12) g26 ?_
  obtain ⟨g27, e⟩ := gd_some e
  obtain ⟨q28, g29, e⟩ := ob_some e
  refine V_getR (pc := 68) (ci := 2) (k := 1) (b := q28) dX11_isUnnoticed_68 fl_X11_149 rfl (of_decide_eq_true g27) g29 ?_
  obtain ⟨r31, g30, e⟩ := ob_some e
  obtain ⟨g32, e⟩ := gd_some e
  refine V_callV (pc := 71) (bc := 0) (bs := 0) (mc := 0) (ms := 0) (st := [.int r21]) (As := [.int v2, .int v4, .ref q28]) (a := q23) (h' := h) (r := some (.int r31)) dX11_isUnnoticed_71 ml_X11_317 (ci := 2) rfl (of_decide_eq_true g32) rfl rfl (Nat.le_of_ble_eq_true rfl) (d' := 0) (by decide) (c_X2_gain (l := x.2.1) q23 v2 v4 q28 h g30) ?_
  refine V_iadd (pc := 74) dX11_isUnnoticed_74 ?_
  refine V_if_ne (pc := 75) (tgt := 119) dX11_isUnnoticed_75 (by decide) (fun c55 => ?_) (fun c55 => ?_)
  · rw [if_neg c55] at e
    exact V_pick [] rfl (r_X11_isUnnoticed_b119 h e hF)
  · rw [if_pos c55] at e
    refine V_pick [0, 1, 2, 3, 4] rfl ?_
    refine V_aload_n (pc := 78) (i := 0) dX11_isUnnoticed_78 rfl rfl ?_
    obtain ⟨q34, g35, e⟩ := ob_some e
    refine V_getR (pc := 79) (ci := 10) (k := 1) (b := q34) dX11_isUnnoticed_79 fl_X11_19 rfl (of_decide_eq_true g12) g35 ?_
    refine V_iload_n (pc := 82) (i := 1) dX11_isUnnoticed_82 rfl rfl ?_
    refine V_iload_n (pc := 83) (i := 3) dX11_isUnnoticed_83 rfl rfl ?_
    refine V_aload_n (pc := 84) (i := 0) dX11_isUnnoticed_84 rfl rfl ?_
    obtain ⟨q36, g37, e⟩ := ob_some e
    refine V_getR (pc := 85) (ci := 10) (k := 1) (b := q36) dX11_isUnnoticed_85 fl_X11_19 rfl (of_decide_eq_true g12) g37 ?_
    obtain ⟨g38, e⟩ := gd_some e
    obtain ⟨q39, g40, e⟩ := ob_some e
    refine V_getR (pc := 88) (ci := 2) (k := 2) (b := q39) dX11_isUnnoticed_88 fl_X11_153 rfl (of_decide_eq_true g38) g40 ?_
    obtain ⟨r42, g41, e⟩ := ob_some e
    obtain ⟨g43, e⟩ := gd_some e
    refine V_callV (pc := 91) (bc := 0) (bs := 0) (mc := 0) (ms := 0) (st := []) (As := [.int v1, .int v3, .ref q39]) (a := q34) (h' := h) (r := some (.int r42)) dX11_isUnnoticed_91 ml_X11_317 (ci := 2) rfl (of_decide_eq_true g43) rfl rfl (Nat.le_of_ble_eq_true rfl) (d' := 0) (by decide) (c_X2_gain (l := x.2.1) q34 v1 v3 q39 h g41) ?_
    refine V_aload_n (pc := 94) (i := 0) dX11_isUnnoticed_94 rfl rfl ?_
    obtain ⟨q44, g45, e⟩ := ob_some e
    refine V_getR (pc := 95) (ci := 10) (k := 1) (b := q44) dX11_isUnnoticed_95 fl_X11_19 rfl (of_decide_eq_true g12) g45 ?_
    refine V_iload_n (pc := 98) (i := 2) dX11_isUnnoticed_98 rfl rfl ?_
    refine V_iload (pc := 99) (i := 4) dX11_isUnnoticed_99 rfl ?_
    refine V_aload_n (pc := 101) (i := 0) dX11_isUnnoticed_101 rfl rfl ?_
    obtain ⟨q46, g47, e⟩ := ob_some e
    refine V_getR (pc := 102) (ci := 10) (k := 1) (b := q46) dX11_isUnnoticed_102 fl_X11_19 rfl (of_decide_eq_true g12) g47 ?_
    obtain ⟨g48, e⟩ := gd_some e
    obtain ⟨q49, g50, e⟩ := ob_some e
    refine V_getR (pc := 105) (ci := 2) (k := 2) (b := q49) dX11_isUnnoticed_105 fl_X11_153 rfl (of_decide_eq_true g48) g50 ?_
    obtain ⟨r52, g51, e⟩ := ob_some e
    obtain ⟨g53, e⟩ := gd_some e
    refine V_callV (pc := 108) (bc := 0) (bs := 0) (mc := 0) (ms := 0) (st := [.int r42]) (As := [.int v2, .int v4, .ref q49]) (a := q44) (h' := h) (r := some (.int r52)) dX11_isUnnoticed_108 ml_X11_317 (ci := 2) rfl (of_decide_eq_true g53) rfl rfl (Nat.le_of_ble_eq_true rfl) (d' := 0) (by decide) (c_X2_gain (l := x.2.1) q44 v2 v4 q49 h g51) ?_
    refine V_iadd (pc := 111) dX11_isUnnoticed_111 ?_
    refine V_if_ne (pc := 112) (tgt := 119) dX11_isUnnoticed_112 (by decide) (fun c54 => ?_) (fun c54 => ?_)
    · rw [if_neg c54] at e
      exact V_pick [] rfl (r_X11_isUnnoticed_b119 h e hF)
    · rw [if_pos c54] at e
      refine V_pick [] rfl ?_
      refine V_iconst (pc := 115) (v := (1 : Int32)) dX11_isUnnoticed_115 (by decide) ?_
      refine V_goto (pc := 116) (tgt := 120) dX11_isUnnoticed_116 (by decide) ?_
      exact V_pick [] rfl (r_X11_isUnnoticed_b120 (1 : Int32) h e hF)
set_option maxRecDepth 100000 in
def F_X11_isUnnoticed_b0 (v0 : Nat) (v1 : Int32) (v2 : Int32) (v3 : Int32) (v4 : Int32) (h : Hp) : Option Int32 :=
  gd (decide (kd h v0 = 10)) <| ob (zR h v0 1) fun q2 => gd (decide (kd h q2 = 2)) <| (if (zI h q2 0) ≤ v4 then F_X11_isUnnoticed_b39 h else ob (zR h v0 1) fun q5 => gd (decide (kd h q5 = 2)) <| ob (zR h q5 7) fun q8 => gd (decide (kd h q8 = 13)) <| gd (ix v1 (zl h q8)) <| (if v3 = (zI h q8 (v1).toNatClampNeg) then ob (zR h v0 1) fun q56 => gd (decide (kd h q56 = 2)) <| ob (zR h q56 7) fun q59 => gd (decide (kd h q59 = 13)) <| gd (ix v2 (zl h q59)) <| (if v4 = (zI h q59 (v2).toNatClampNeg) then F_X11_isUnnoticed_b39 h else F_X11_isUnnoticed_b41 v0 v1 v2 v3 v4 h) else F_X11_isUnnoticed_b41 v0 v1 v2 v3 v4 h))
set_option maxHeartbeats 4000000 in
set_option maxRecDepth 100000 in
theorem r_X11_isUnnoticed_b0 (v0 : Nat) (v1 : Int32) (v2 : Int32) (v3 : Int32) (v4 : Int32) (h : Hp) {x : Cx} {r : Int32} (e : F_X11_isUnnoticed_b0 v0 v1 v2 v3 v4 h = some r) (hF : Fin9 M_X11_isUnnoticed x (some .boolean) (some (.int r)) h) : V M_X11_isUnnoticed x 1 0 [(0, .ref v0), (1, .int v1), (2, .int v2), (3, .int v3), (4, .int v4)] [] h 0 0 := by
  unfold F_X11_isUnnoticed_b0 at e
  refine V_iload (pc := 0) (i := 4) dX11_isUnnoticed_0 rfl ?_
  refine V_aload_n (pc := 2) (i := 0) dX11_isUnnoticed_2 rfl rfl ?_
  obtain ⟨g1, e⟩ := gd_some e
  obtain ⟨q2, g3, e⟩ := ob_some e
  refine V_getR (pc := 3) (ci := 10) (k := 1) (b := q2) dX11_isUnnoticed_3 fl_X11_19 rfl (of_decide_eq_true g1) g3 ?_
  obtain ⟨g4, e⟩ := gd_some e
  refine V_getI (pc := 6) (ci := 2) (k := 0) dX11_isUnnoticed_6 fl_X11_299 rfl (of_decide_eq_true g4) ?_
  refine V_icmp_ge (pc := 9) (tgt := 39) dX11_isUnnoticed_9 (by decide) (fun c65 => ?_) (fun c65 => ?_)
  · rw [if_pos c65] at e
    exact V_pick [] rfl (r_X11_isUnnoticed_b39 h e hF)
  · rw [if_neg c65] at e
    refine V_pick [0, 1, 2, 3, 4] rfl ?_
    refine V_iload_n (pc := 12) (i := 3) dX11_isUnnoticed_12 rfl rfl ?_
    refine V_aload_n (pc := 13) (i := 0) dX11_isUnnoticed_13 rfl rfl ?_
    obtain ⟨q5, g6, e⟩ := ob_some e
    refine V_getR (pc := 14) (ci := 10) (k := 1) (b := q5) dX11_isUnnoticed_14 fl_X11_19 rfl (of_decide_eq_true g1) g6 ?_
    obtain ⟨g7, e⟩ := gd_some e
    obtain ⟨q8, g9, e⟩ := ob_some e
    refine V_getR (pc := 17) (ci := 2) (k := 7) (b := q8) dX11_isUnnoticed_17 fl_X11_166 rfl (of_decide_eq_true g7) g9 ?_
    refine V_iload_n (pc := 20) (i := 1) dX11_isUnnoticed_20 rfl rfl ?_
    obtain ⟨g10, e⟩ := gd_some e
    obtain ⟨g11, e⟩ := gd_some e
    refine V_iald (pc := 21) dX11_isUnnoticed_21 (of_decide_eq_true g10) (ix_in g11) ?_
    refine V_icmp_ne (pc := 22) (tgt := 41) dX11_isUnnoticed_22 (by decide) (fun c64 => ?_) (fun c64 => ?_)
    · rw [if_neg c64] at e
      exact V_pick [0, 1, 2, 3, 4] rfl (r_X11_isUnnoticed_b41 v0 v1 v2 v3 v4 h e hF)
    · rw [if_pos c64] at e
      refine V_pick [0, 1, 2, 3, 4] rfl ?_
      refine V_iload (pc := 25) (i := 4) dX11_isUnnoticed_25 rfl ?_
      refine V_aload_n (pc := 27) (i := 0) dX11_isUnnoticed_27 rfl rfl ?_
      obtain ⟨q56, g57, e⟩ := ob_some e
      refine V_getR (pc := 28) (ci := 10) (k := 1) (b := q56) dX11_isUnnoticed_28 fl_X11_19 rfl (of_decide_eq_true g1) g57 ?_
      obtain ⟨g58, e⟩ := gd_some e
      obtain ⟨q59, g60, e⟩ := ob_some e
      refine V_getR (pc := 31) (ci := 2) (k := 7) (b := q59) dX11_isUnnoticed_31 fl_X11_166 rfl (of_decide_eq_true g58) g60 ?_
      refine V_iload_n (pc := 34) (i := 2) dX11_isUnnoticed_34 rfl rfl ?_
      obtain ⟨g61, e⟩ := gd_some e
      obtain ⟨g62, e⟩ := gd_some e
      refine V_iald (pc := 35) dX11_isUnnoticed_35 (of_decide_eq_true g61) (ix_in g62) ?_
      refine V_icmp_ne (pc := 36) (tgt := 41) dX11_isUnnoticed_36 (by decide) (fun c63 => ?_) (fun c63 => ?_)
      · rw [if_neg c63] at e
        exact V_pick [0, 1, 2, 3, 4] rfl (r_X11_isUnnoticed_b41 v0 v1 v2 v3 v4 h e hF)
      · rw [if_pos c63] at e
        exact V_pick [] rfl (r_X11_isUnnoticed_b39 h e hF)
def F_X11_isUnnoticed (v0 : Nat) (v1 : Int32) (v2 : Int32) (v3 : Int32) (v4 : Int32) (h : Hp) : Option Int32 := F_X11_isUnnoticed_b0 v0 v1 v2 v3 v4 h
theorem c_X11_isUnnoticed {l : Launch} (v0 : Nat) (v1 : Int32) (v2 : Int32) (v3 : Int32) (v4 : Int32) (h : Hp) {r : Int32} (e : F_X11_isUnnoticed v0 v1 v2 v3 v4 h = some r) : Ct l yX11_isUnnoticed M_X11_isUnnoticed (some .boolean) 1 [.ref v0, .int v1, .int v2, .int v3, .int v4] h 0 0 (some (.int r)) h :=
  Ct_of rfl rfl (fun q => by cases q) (Nat.le_of_ble_eq_true rfl) (fun x _ hF => V_pick [0, 1, 2, 3, 4] rfl (r_X11_isUnnoticed_b0 v0 v1 v2 v3 v4 h e hF))
theorem dX11_count_0 : decode cX11_count 0 = .ok (.iload_n 1, 1) := by decide +kernel
theorem dX11_count_1 : decode cX11_count 1 = .ok (.tableswitch 165 0 11 #[63, 71, 79, 90, 98, 109, 117, 125, 133, 141, 149, 157], 63) := by decide +kernel
theorem dX11_count_64 : decode cX11_count 64 = .ok (.aload_n 0, 1) := by decide +kernel
theorem dX11_count_65 : decode cX11_count 65 = .ok (.getfield 19, 3) := by decide +kernel
theorem dX11_count_68 : decode cX11_count 68 = .ok (.getfield 299, 3) := by decide +kernel
theorem dX11_count_71 : decode cX11_count 71 = .ok (.ireturn, 1) := by decide +kernel
theorem dX11_count_72 : decode cX11_count 72 = .ok (.aload_n 0, 1) := by decide +kernel
theorem dX11_count_73 : decode cX11_count 73 = .ok (.getfield 19, 3) := by decide +kernel
theorem dX11_count_76 : decode cX11_count 76 = .ok (.getfield 273, 3) := by decide +kernel
theorem dX11_count_79 : decode cX11_count 79 = .ok (.ireturn, 1) := by decide +kernel
theorem dX11_count_80 : decode cX11_count 80 = .ok (.aload_n 0, 1) := by decide +kernel
theorem dX11_count_81 : decode cX11_count 81 = .ok (.getfield 19, 3) := by decide +kernel
theorem dX11_count_84 : decode cX11_count 84 = .ok (.getfield 173, 3) := by decide +kernel
theorem dX11_count_87 : decode cX11_count 87 = .ok (.getfield 374, 3) := by decide +kernel
theorem dX11_count_90 : decode cX11_count 90 = .ok (.ireturn, 1) := by decide +kernel
theorem dX11_count_91 : decode cX11_count 91 = .ok (.aload_n 0, 1) := by decide +kernel
theorem dX11_count_92 : decode cX11_count 92 = .ok (.getfield 19, 3) := by decide +kernel
theorem dX11_count_95 : decode cX11_count 95 = .ok (.getfield 98, 3) := by decide +kernel
theorem dX11_count_98 : decode cX11_count 98 = .ok (.ireturn, 1) := by decide +kernel
theorem dX11_count_99 : decode cX11_count 99 = .ok (.aload_n 0, 1) := by decide +kernel
theorem dX11_count_100 : decode cX11_count 100 = .ok (.getfield 19, 3) := by decide +kernel
theorem dX11_count_103 : decode cX11_count 103 = .ok (.getfield 134, 3) := by decide +kernel
theorem dX11_count_106 : decode cX11_count 106 = .ok (.getfield 140, 3) := by decide +kernel
theorem dX11_count_109 : decode cX11_count 109 = .ok (.ireturn, 1) := by decide +kernel
theorem dX11_count_110 : decode cX11_count 110 = .ok (.aload_n 0, 1) := by decide +kernel
theorem dX11_count_111 : decode cX11_count 111 = .ok (.getfield 19, 3) := by decide +kernel
theorem dX11_count_114 : decode cX11_count 114 = .ok (.getfield 321, 3) := by decide +kernel
theorem dX11_count_117 : decode cX11_count 117 = .ok (.ireturn, 1) := by decide +kernel
theorem dX11_count_118 : decode cX11_count 118 = .ok (.aload_n 0, 1) := by decide +kernel
theorem dX11_count_119 : decode cX11_count 119 = .ok (.getfield 19, 3) := by decide +kernel
theorem dX11_count_122 : decode cX11_count 122 = .ok (.getfield 279, 3) := by decide +kernel
theorem dX11_count_125 : decode cX11_count 125 = .ok (.ireturn, 1) := by decide +kernel
theorem dX11_count_126 : decode cX11_count 126 = .ok (.aload_n 0, 1) := by decide +kernel
theorem dX11_count_127 : decode cX11_count 127 = .ok (.getfield 19, 3) := by decide +kernel
theorem dX11_count_130 : decode cX11_count 130 = .ok (.getfield 375, 3) := by decide +kernel
theorem dX11_count_133 : decode cX11_count 133 = .ok (.ireturn, 1) := by decide +kernel
theorem dX11_count_134 : decode cX11_count 134 = .ok (.aload_n 0, 1) := by decide +kernel
theorem dX11_count_135 : decode cX11_count 135 = .ok (.getfield 19, 3) := by decide +kernel
theorem dX11_count_138 : decode cX11_count 138 = .ok (.getfield 378, 3) := by decide +kernel
theorem dX11_count_141 : decode cX11_count 141 = .ok (.ireturn, 1) := by decide +kernel
theorem dX11_count_142 : decode cX11_count 142 = .ok (.aload_n 0, 1) := by decide +kernel
theorem dX11_count_143 : decode cX11_count 143 = .ok (.getfield 19, 3) := by decide +kernel
theorem dX11_count_146 : decode cX11_count 146 = .ok (.getfield 381, 3) := by decide +kernel
theorem dX11_count_149 : decode cX11_count 149 = .ok (.ireturn, 1) := by decide +kernel
theorem dX11_count_150 : decode cX11_count 150 = .ok (.aload_n 0, 1) := by decide +kernel
theorem dX11_count_151 : decode cX11_count 151 = .ok (.getfield 19, 3) := by decide +kernel
theorem dX11_count_154 : decode cX11_count 154 = .ok (.invokevirtual 354, 3) := by decide +kernel
theorem dX11_count_157 : decode cX11_count 157 = .ok (.ireturn, 1) := by decide +kernel
theorem dX11_count_158 : decode cX11_count 158 = .ok (.aload_n 0, 1) := by decide +kernel
theorem dX11_count_159 : decode cX11_count 159 = .ok (.getfield 19, 3) := by decide +kernel
theorem dX11_count_162 : decode cX11_count 162 = .ok (.invokevirtual 384, 3) := by decide +kernel
theorem dX11_count_165 : decode cX11_count 165 = .ok (.ireturn, 1) := by decide +kernel
theorem dX11_count_166 : decode cX11_count 166 = .ok (.iconst (-1), 1) := by decide +kernel
theorem dX11_count_167 : decode cX11_count 167 = .ok (.ireturn, 1) := by decide +kernel
set_option maxRecDepth 100000 in
def F_X11_count_b0 (v0 : Nat) (v1 : Int32) (h : Hp) : Option Int32 :=
  (if v1 = (0 : Int32) then gd (decide (kd h v0 = 10)) <| ob (zR h v0 1) fun q2 => gd (decide (kd h q2 = 2)) <| some (zI h q2 0) else if v1 = (1 : Int32) then gd (decide (kd h v0 = 10)) <| ob (zR h v0 1) fun q7 => gd (decide (kd h q7 = 2)) <| some (zI h q7 5) else if v1 = (2 : Int32) then gd (decide (kd h v0 = 10)) <| ob (zR h v0 1) fun q12 => gd (decide (kd h q12 = 2)) <| ob (zR h q12 9) fun q15 => gd (decide (kd h q15 = 7)) <| some (zI h q15 0) else if v1 = (3 : Int32) then gd (decide (kd h v0 = 10)) <| ob (zR h v0 1) fun q20 => gd (decide (kd h q20 = 2)) <| some (zI h q20 14) else if v1 = (4 : Int32) then gd (decide (kd h v0 = 10)) <| ob (zR h v0 1) fun q25 => gd (decide (kd h q25 = 2)) <| ob (zR h q25 16) fun q28 => gd (decide (kd h q28 = 0)) <| some (zI h q28 0) else if v1 = (5 : Int32) then gd (decide (kd h v0 = 10)) <| ob (zR h v0 1) fun q33 => gd (decide (kd h q33 = 2)) <| some (zI h q33 17) else if v1 = (6 : Int32) then gd (decide (kd h v0 = 10)) <| ob (zR h v0 1) fun q38 => gd (decide (kd h q38 = 2)) <| some (zI h q38 11) else if v1 = (7 : Int32) then gd (decide (kd h v0 = 10)) <| ob (zR h v0 1) fun q43 => gd (decide (kd h q43 = 2)) <| some (zI h q43 10) else if v1 = (8 : Int32) then gd (decide (kd h v0 = 10)) <| ob (zR h v0 1) fun q48 => gd (decide (kd h q48 = 2)) <| some (zI h q48 12) else if v1 = (9 : Int32) then gd (decide (kd h v0 = 10)) <| ob (zR h v0 1) fun q53 => gd (decide (kd h q53 = 2)) <| some (zI h q53 13) else if v1 = (10 : Int32) then gd (decide (kd h v0 = 10)) <| ob (zR h v0 1) fun q58 => ob (F_X2_snowOfAll q58 h) fun r61 => gd (decide (kd h q58 = 2)) <| some r61 else if v1 = (11 : Int32) then gd (decide (kd h v0 = 10)) <| ob (zR h v0 1) fun q65 => ob (F_X2_wishesOfAll q65 h) fun r68 => gd (decide (kd h q65 = 2)) <| some r68 else some (-1 : Int32))
set_option maxHeartbeats 4000000 in
set_option maxRecDepth 100000 in
theorem r_X11_count_b0 (v0 : Nat) (v1 : Int32) (h : Hp) {x : Cx} {r : Int32} (e : F_X11_count_b0 v0 v1 h = some r) (hF : Fin9 M_X11_count x (some .int) (some (.int r)) h) : V M_X11_count x 1 0 [(0, .ref v0), (1, .int v1)] [] h 0 0 := by
  unfold F_X11_count_b0 at e
  refine V_iload_n (pc := 0) (i := 1) dX11_count_0 rfl rfl ?_
  by_cases c5 : v1 = (0 : Int32)
  · rw [if_pos c5] at e
    refine V_tableIn (pc := 1) (tgt := 64) dX11_count_1 (by rw [c5]; decide) (by rw [c5]; decide) (by rw [c5]; rfl) (by decide) ?_
    refine V_pick [0] rfl ?_
    refine V_aload_n (pc := 64) (i := 0) dX11_count_64 rfl rfl ?_
    obtain ⟨g1, e⟩ := gd_some e
    obtain ⟨q2, g3, e⟩ := ob_some e
    refine V_getR (pc := 65) (ci := 10) (k := 1) (b := q2) dX11_count_65 fl_X11_19 rfl (of_decide_eq_true g1) g3 ?_
    obtain ⟨g4, e⟩ := gd_some e
    refine V_getI (pc := 68) (ci := 2) (k := 0) dX11_count_68 fl_X11_299 rfl (of_decide_eq_true g4) ?_
    cases e
    exact V_iret (pc := 71) dX11_count_71 hF
  · rw [if_neg c5] at e
    by_cases c10 : v1 = (1 : Int32)
    · rw [if_pos c10] at e
      refine V_tableIn (pc := 1) (tgt := 72) dX11_count_1 (by rw [c10]; decide) (by rw [c10]; decide) (by rw [c10]; rfl) (by decide) ?_
      refine V_pick [0] rfl ?_
      refine V_aload_n (pc := 72) (i := 0) dX11_count_72 rfl rfl ?_
      obtain ⟨g6, e⟩ := gd_some e
      obtain ⟨q7, g8, e⟩ := ob_some e
      refine V_getR (pc := 73) (ci := 10) (k := 1) (b := q7) dX11_count_73 fl_X11_19 rfl (of_decide_eq_true g6) g8 ?_
      obtain ⟨g9, e⟩ := gd_some e
      refine V_getI (pc := 76) (ci := 2) (k := 5) dX11_count_76 fl_X11_273 rfl (of_decide_eq_true g9) ?_
      cases e
      exact V_iret (pc := 79) dX11_count_79 hF
    · rw [if_neg c10] at e
      by_cases c18 : v1 = (2 : Int32)
      · rw [if_pos c18] at e
        refine V_tableIn (pc := 1) (tgt := 80) dX11_count_1 (by rw [c18]; decide) (by rw [c18]; decide) (by rw [c18]; rfl) (by decide) ?_
        refine V_pick [0] rfl ?_
        refine V_aload_n (pc := 80) (i := 0) dX11_count_80 rfl rfl ?_
        obtain ⟨g11, e⟩ := gd_some e
        obtain ⟨q12, g13, e⟩ := ob_some e
        refine V_getR (pc := 81) (ci := 10) (k := 1) (b := q12) dX11_count_81 fl_X11_19 rfl (of_decide_eq_true g11) g13 ?_
        obtain ⟨g14, e⟩ := gd_some e
        obtain ⟨q15, g16, e⟩ := ob_some e
        refine V_getR (pc := 84) (ci := 2) (k := 9) (b := q15) dX11_count_84 fl_X11_173 rfl (of_decide_eq_true g14) g16 ?_
        obtain ⟨g17, e⟩ := gd_some e
        refine V_getI (pc := 87) (ci := 7) (k := 0) dX11_count_87 fl_X11_374 rfl (of_decide_eq_true g17) ?_
        cases e
        exact V_iret (pc := 90) dX11_count_90 hF
      · rw [if_neg c18] at e
        by_cases c23 : v1 = (3 : Int32)
        · rw [if_pos c23] at e
          refine V_tableIn (pc := 1) (tgt := 91) dX11_count_1 (by rw [c23]; decide) (by rw [c23]; decide) (by rw [c23]; rfl) (by decide) ?_
          refine V_pick [0] rfl ?_
          refine V_aload_n (pc := 91) (i := 0) dX11_count_91 rfl rfl ?_
          obtain ⟨g19, e⟩ := gd_some e
          obtain ⟨q20, g21, e⟩ := ob_some e
          refine V_getR (pc := 92) (ci := 10) (k := 1) (b := q20) dX11_count_92 fl_X11_19 rfl (of_decide_eq_true g19) g21 ?_
          obtain ⟨g22, e⟩ := gd_some e
          refine V_getI (pc := 95) (ci := 2) (k := 14) dX11_count_95 fl_X11_98 rfl (of_decide_eq_true g22) ?_
          cases e
          exact V_iret (pc := 98) dX11_count_98 hF
        · rw [if_neg c23] at e
          by_cases c31 : v1 = (4 : Int32)
          · rw [if_pos c31] at e
            refine V_tableIn (pc := 1) (tgt := 99) dX11_count_1 (by rw [c31]; decide) (by rw [c31]; decide) (by rw [c31]; rfl) (by decide) ?_
            refine V_pick [0] rfl ?_
            refine V_aload_n (pc := 99) (i := 0) dX11_count_99 rfl rfl ?_
            obtain ⟨g24, e⟩ := gd_some e
            obtain ⟨q25, g26, e⟩ := ob_some e
            refine V_getR (pc := 100) (ci := 10) (k := 1) (b := q25) dX11_count_100 fl_X11_19 rfl (of_decide_eq_true g24) g26 ?_
            obtain ⟨g27, e⟩ := gd_some e
            obtain ⟨q28, g29, e⟩ := ob_some e
            refine V_getR (pc := 103) (ci := 2) (k := 16) (b := q28) dX11_count_103 fl_X11_134 rfl (of_decide_eq_true g27) g29 ?_
            obtain ⟨g30, e⟩ := gd_some e
            refine V_getI (pc := 106) (ci := 0) (k := 0) dX11_count_106 fl_X11_140 rfl (of_decide_eq_true g30) ?_
            cases e
            exact V_iret (pc := 109) dX11_count_109 hF
          · rw [if_neg c31] at e
            by_cases c36 : v1 = (5 : Int32)
            · rw [if_pos c36] at e
              refine V_tableIn (pc := 1) (tgt := 110) dX11_count_1 (by rw [c36]; decide) (by rw [c36]; decide) (by rw [c36]; rfl) (by decide) ?_
              refine V_pick [0] rfl ?_
              refine V_aload_n (pc := 110) (i := 0) dX11_count_110 rfl rfl ?_
              obtain ⟨g32, e⟩ := gd_some e
              obtain ⟨q33, g34, e⟩ := ob_some e
              refine V_getR (pc := 111) (ci := 10) (k := 1) (b := q33) dX11_count_111 fl_X11_19 rfl (of_decide_eq_true g32) g34 ?_
              obtain ⟨g35, e⟩ := gd_some e
              refine V_getI (pc := 114) (ci := 2) (k := 17) dX11_count_114 fl_X11_321 rfl (of_decide_eq_true g35) ?_
              cases e
              exact V_iret (pc := 117) dX11_count_117 hF
            · rw [if_neg c36] at e
              by_cases c41 : v1 = (6 : Int32)
              · rw [if_pos c41] at e
                refine V_tableIn (pc := 1) (tgt := 118) dX11_count_1 (by rw [c41]; decide) (by rw [c41]; decide) (by rw [c41]; rfl) (by decide) ?_
                refine V_pick [0] rfl ?_
                refine V_aload_n (pc := 118) (i := 0) dX11_count_118 rfl rfl ?_
                obtain ⟨g37, e⟩ := gd_some e
                obtain ⟨q38, g39, e⟩ := ob_some e
                refine V_getR (pc := 119) (ci := 10) (k := 1) (b := q38) dX11_count_119 fl_X11_19 rfl (of_decide_eq_true g37) g39 ?_
                obtain ⟨g40, e⟩ := gd_some e
                refine V_getI (pc := 122) (ci := 2) (k := 11) dX11_count_122 fl_X11_279 rfl (of_decide_eq_true g40) ?_
                cases e
                exact V_iret (pc := 125) dX11_count_125 hF
              · rw [if_neg c41] at e
                by_cases c46 : v1 = (7 : Int32)
                · rw [if_pos c46] at e
                  refine V_tableIn (pc := 1) (tgt := 126) dX11_count_1 (by rw [c46]; decide) (by rw [c46]; decide) (by rw [c46]; rfl) (by decide) ?_
                  refine V_pick [0] rfl ?_
                  refine V_aload_n (pc := 126) (i := 0) dX11_count_126 rfl rfl ?_
                  obtain ⟨g42, e⟩ := gd_some e
                  obtain ⟨q43, g44, e⟩ := ob_some e
                  refine V_getR (pc := 127) (ci := 10) (k := 1) (b := q43) dX11_count_127 fl_X11_19 rfl (of_decide_eq_true g42) g44 ?_
                  obtain ⟨g45, e⟩ := gd_some e
                  refine V_getI (pc := 130) (ci := 2) (k := 10) dX11_count_130 fl_X11_375 rfl (of_decide_eq_true g45) ?_
                  cases e
                  exact V_iret (pc := 133) dX11_count_133 hF
                · rw [if_neg c46] at e
                  by_cases c51 : v1 = (8 : Int32)
                  · rw [if_pos c51] at e
                    refine V_tableIn (pc := 1) (tgt := 134) dX11_count_1 (by rw [c51]; decide) (by rw [c51]; decide) (by rw [c51]; rfl) (by decide) ?_
                    refine V_pick [0] rfl ?_
                    refine V_aload_n (pc := 134) (i := 0) dX11_count_134 rfl rfl ?_
                    obtain ⟨g47, e⟩ := gd_some e
                    obtain ⟨q48, g49, e⟩ := ob_some e
                    refine V_getR (pc := 135) (ci := 10) (k := 1) (b := q48) dX11_count_135 fl_X11_19 rfl (of_decide_eq_true g47) g49 ?_
                    obtain ⟨g50, e⟩ := gd_some e
                    refine V_getI (pc := 138) (ci := 2) (k := 12) dX11_count_138 fl_X11_378 rfl (of_decide_eq_true g50) ?_
                    cases e
                    exact V_iret (pc := 141) dX11_count_141 hF
                  · rw [if_neg c51] at e
                    by_cases c56 : v1 = (9 : Int32)
                    · rw [if_pos c56] at e
                      refine V_tableIn (pc := 1) (tgt := 142) dX11_count_1 (by rw [c56]; decide) (by rw [c56]; decide) (by rw [c56]; rfl) (by decide) ?_
                      refine V_pick [0] rfl ?_
                      refine V_aload_n (pc := 142) (i := 0) dX11_count_142 rfl rfl ?_
                      obtain ⟨g52, e⟩ := gd_some e
                      obtain ⟨q53, g54, e⟩ := ob_some e
                      refine V_getR (pc := 143) (ci := 10) (k := 1) (b := q53) dX11_count_143 fl_X11_19 rfl (of_decide_eq_true g52) g54 ?_
                      obtain ⟨g55, e⟩ := gd_some e
                      refine V_getI (pc := 146) (ci := 2) (k := 13) dX11_count_146 fl_X11_381 rfl (of_decide_eq_true g55) ?_
                      cases e
                      exact V_iret (pc := 149) dX11_count_149 hF
                    · rw [if_neg c56] at e
                      by_cases c63 : v1 = (10 : Int32)
                      · rw [if_pos c63] at e
                        refine V_tableIn (pc := 1) (tgt := 150) dX11_count_1 (by rw [c63]; decide) (by rw [c63]; decide) (by rw [c63]; rfl) (by decide) ?_
                        refine V_pick [0] rfl ?_
                        refine V_aload_n (pc := 150) (i := 0) dX11_count_150 rfl rfl ?_
                        obtain ⟨g57, e⟩ := gd_some e
                        obtain ⟨q58, g59, e⟩ := ob_some e
                        refine V_getR (pc := 151) (ci := 10) (k := 1) (b := q58) dX11_count_151 fl_X11_19 rfl (of_decide_eq_true g57) g59 ?_
                        obtain ⟨r61, g60, e⟩ := ob_some e
                        obtain ⟨g62, e⟩ := gd_some e
                        refine V_callV (pc := 154) (bc := 0) (bs := 0) (mc := 0) (ms := 0) (st := []) (As := []) (a := q58) (h' := h) (r := some (.int r61)) dX11_count_154 ml_X11_354 (ci := 2) rfl (of_decide_eq_true g62) rfl rfl (Nat.le_of_ble_eq_true rfl) (d' := 0) (by decide) (c_X2_snowOfAll (l := x.2.1) q58 h g60) ?_
                        cases e
                        exact V_iret (pc := 157) dX11_count_157 hF
                      · rw [if_neg c63] at e
                        by_cases c70 : v1 = (11 : Int32)
                        · rw [if_pos c70] at e
                          refine V_tableIn (pc := 1) (tgt := 158) dX11_count_1 (by rw [c70]; decide) (by rw [c70]; decide) (by rw [c70]; rfl) (by decide) ?_
                          refine V_pick [0] rfl ?_
                          refine V_aload_n (pc := 158) (i := 0) dX11_count_158 rfl rfl ?_
                          obtain ⟨g64, e⟩ := gd_some e
                          obtain ⟨q65, g66, e⟩ := ob_some e
                          refine V_getR (pc := 159) (ci := 10) (k := 1) (b := q65) dX11_count_159 fl_X11_19 rfl (of_decide_eq_true g64) g66 ?_
                          obtain ⟨r68, g67, e⟩ := ob_some e
                          obtain ⟨g69, e⟩ := gd_some e
                          refine V_callV (pc := 162) (bc := 0) (bs := 0) (mc := 0) (ms := 0) (st := []) (As := []) (a := q65) (h' := h) (r := some (.int r68)) dX11_count_162 ml_X11_384 (ci := 2) rfl (of_decide_eq_true g69) rfl rfl (Nat.le_of_ble_eq_true rfl) (d' := 0) (by decide) (c_X2_wishesOfAll (l := x.2.1) q65 h g67) ?_
                          cases e
                          exact V_iret (pc := 165) dX11_count_165 hF
                        · rw [if_neg c70] at e
                          refine V_tableOut (pc := 1) (tgt := 166) dX11_count_1 (by have q0 := tI_ne c5 (z := 0) (by decide); have q1 := tI_ne c10 (z := 1) (by decide); have q2 := tI_ne c18 (z := 2) (by decide); have q3 := tI_ne c23 (z := 3) (by decide); have q4 := tI_ne c31 (z := 4) (by decide); have q5 := tI_ne c36 (z := 5) (by decide); have q6 := tI_ne c41 (z := 6) (by decide); have q7 := tI_ne c46 (z := 7) (by decide); have q8 := tI_ne c51 (z := 8) (by decide); have q9 := tI_ne c56 (z := 9) (by decide); have q10 := tI_ne c63 (z := 10) (by decide); have q11 := tI_ne c70 (z := 11) (by decide); omega) (by decide) ?_
                          refine V_pick [] rfl ?_
                          refine V_iconst (pc := 166) (v := (-1 : Int32)) dX11_count_166 (by decide) ?_
                          cases e
                          exact V_iret (pc := 167) dX11_count_167 hF
def F_X11_count (v0 : Nat) (v1 : Int32) (h : Hp) : Option Int32 := F_X11_count_b0 v0 v1 h
theorem c_X11_count {l : Launch} (v0 : Nat) (v1 : Int32) (h : Hp) {r : Int32} (e : F_X11_count v0 v1 h = some r) : Ct l yX11_count M_X11_count (some .int) 1 [.ref v0, .int v1] h 0 0 (some (.int r)) h :=
  Ct_of rfl rfl (fun q => by cases q) (Nat.le_of_ble_eq_true rfl) (fun x _ hF => V_pick [0, 1] rfl (r_X11_count_b0 v0 v1 h e hF))
theorem dX12_opens_0 : decode cX12_opens 0 = .ok (.iload_n 1, 1) := by decide +kernel
theorem dX12_opens_1 : decode cX12_opens 1 = .ok (.istore_n 2, 1) := by decide +kernel
theorem dX12_opens_2 : decode cX12_opens 2 = .ok (.iconst 1, 1) := by decide +kernel
theorem dX12_opens_3 : decode cX12_opens 3 = .ok (.istore_n 3, 1) := by decide +kernel
theorem dX12_opens_4 : decode cX12_opens 4 = .ok (.aload_n 0, 1) := by decide +kernel
theorem dX12_opens_5 : decode cX12_opens 5 = .ok (.invokevirtual 68, 3) := by decide +kernel
theorem dX12_opens_8 : decode cX12_opens 8 = .ok (.iconst 1, 1) := by decide +kernel
theorem dX12_opens_9 : decode cX12_opens 9 = .ok (.isub, 1) := by decide +kernel
theorem dX12_opens_10 : decode cX12_opens 10 = .ok (.istore 4, 2) := by decide +kernel
theorem dX12_opens_12 : decode cX12_opens 12 = .ok (.iload 4, 2) := by decide +kernel
theorem dX12_opens_14 : decode cX12_opens 14 = .ok (.ifCond .lt 49, 3) := by decide +kernel
theorem dX12_opens_17 : decode cX12_opens 17 = .ok (.aload_n 0, 1) := by decide +kernel
theorem dX12_opens_18 : decode cX12_opens 18 = .ok (.getfield 36, 3) := by decide +kernel
theorem dX12_opens_21 : decode cX12_opens 21 = .ok (.iload 4, 2) := by decide +kernel
theorem dX12_opens_23 : decode cX12_opens 23 = .ok (.iload_n 2, 1) := by decide +kernel
theorem dX12_opens_24 : decode cX12_opens 24 = .ok (.bipush 8, 2) := by decide +kernel
theorem dX12_opens_26 : decode cX12_opens 26 = .ok (.irem, 1) := by decide +kernel
theorem dX12_opens_27 : decode cX12_opens 27 = .ok (.iastore, 1) := by decide +kernel
theorem dX12_opens_28 : decode cX12_opens 28 = .ok (.iload_n 2, 1) := by decide +kernel
theorem dX12_opens_29 : decode cX12_opens 29 = .ok (.bipush 8, 2) := by decide +kernel
theorem dX12_opens_31 : decode cX12_opens 31 = .ok (.idiv, 1) := by decide +kernel
theorem dX12_opens_32 : decode cX12_opens 32 = .ok (.istore_n 2, 1) := by decide +kernel
theorem dX12_opens_33 : decode cX12_opens 33 = .ok (.iload_n 3, 1) := by decide +kernel
theorem dX12_opens_34 : decode cX12_opens 34 = .ok (.ifCond .eq 21, 3) := by decide +kernel
theorem dX12_opens_37 : decode cX12_opens 37 = .ok (.aload_n 0, 1) := by decide +kernel
theorem dX12_opens_38 : decode cX12_opens 38 = .ok (.getfield 36, 3) := by decide +kernel
theorem dX12_opens_41 : decode cX12_opens 41 = .ok (.iload 4, 2) := by decide +kernel
theorem dX12_opens_43 : decode cX12_opens 43 = .ok (.iaload, 1) := by decide +kernel
theorem dX12_opens_44 : decode cX12_opens 44 = .ok (.aload_n 0, 1) := by decide +kernel
theorem dX12_opens_45 : decode cX12_opens 45 = .ok (.invokevirtual 60, 3) := by decide +kernel
theorem dX12_opens_48 : decode cX12_opens 48 = .ok (.if_icmp .ge 7, 3) := by decide +kernel
theorem dX12_opens_51 : decode cX12_opens 51 = .ok (.iconst 1, 1) := by decide +kernel
theorem dX12_opens_52 : decode cX12_opens 52 = .ok (.goto 4, 3) := by decide +kernel
theorem dX12_opens_55 : decode cX12_opens 55 = .ok (.iconst 0, 1) := by decide +kernel
theorem dX12_opens_56 : decode cX12_opens 56 = .ok (.istore_n 3, 1) := by decide +kernel
theorem dX12_opens_57 : decode cX12_opens 57 = .ok (.iinc 4 (-1), 3) := by decide +kernel
theorem dX12_opens_60 : decode cX12_opens 60 = .ok (.goto (-48), 3) := by decide +kernel
theorem dX12_opens_63 : decode cX12_opens 63 = .ok (.iload_n 3, 1) := by decide +kernel
theorem dX12_opens_64 : decode cX12_opens 64 = .ok (.ifCond .eq 14, 3) := by decide +kernel
theorem dX12_opens_67 : decode cX12_opens 67 = .ok (.aload_n 0, 1) := by decide +kernel
theorem dX12_opens_68 : decode cX12_opens 68 = .ok (.invokevirtual 331, 3) := by decide +kernel
theorem dX12_opens_71 : decode cX12_opens 71 = .ok (.ifCond .eq 7, 3) := by decide +kernel
theorem dX12_opens_74 : decode cX12_opens 74 = .ok (.iconst 1, 1) := by decide +kernel
theorem dX12_opens_75 : decode cX12_opens 75 = .ok (.goto 4, 3) := by decide +kernel
theorem dX12_opens_78 : decode cX12_opens 78 = .ok (.iconst 0, 1) := by decide +kernel
theorem dX12_opens_79 : decode cX12_opens 79 = .ok (.ireturn, 1) := by decide +kernel
set_option maxRecDepth 100000 in
def F_X12_opens_b56 (v0 : Nat) (v2 : Int32) (v4 : Int32) (t0 : Int32) (h : Hp) : Option ((Int32 × Int32 × Int32 × Hp) ⊕ (Int32 × Hp)) :=
  some (.inl (v2, t0, v4 + (-1 : Int32), h))
set_option maxHeartbeats 4000000 in
set_option maxRecDepth 100000 in
theorem r_X12_opens_b56 (v0 : Nat) (v2 : Int32) (v4 : Int32) (t0 : Int32) (h : Hp) {x : Cx} {o : ((Int32 × Int32 × Int32 × Hp) ⊕ (Int32 × Hp))} (e : F_X12_opens_b56 v0 v2 v4 t0 h = some o) (kI : ∀ z, o = .inl z → V M_X12_opens x 3 12 [(0, .ref v0), (2, .int z.1), (3, .int z.2.1), (4, .int z.2.2.1)] [] z.2.2.2 0 0) (kE63 : ∀ z : Int32 × Hp, o = .inr z → V M_X12_opens x 3 63 [(0, .ref v0), (3, .int z.1)] [] z.2 0 0) : V M_X12_opens x 3 56 [(0, .ref v0), (2, .int v2), (4, .int v4)] [.int t0] h 0 0 := by
  unfold F_X12_opens_b56 at e
  refine V_istore_n (pc := 56) (i := 3) (lv' := [(3, .int t0), (0, .ref v0), (2, .int v2), (4, .int v4)]) dX12_opens_56 rfl (by decide) rfl ?_
  refine V_iinc (pc := 57) (i := 4) (u := v4 + (-1 : Int32)) (lv' := [(4, .int (v4 + (-1 : Int32))), (3, .int t0), (0, .ref v0), (2, .int v2)]) dX12_opens_57 rfl rfl (by decide) rfl ?_
  refine V_goto (pc := 60) (tgt := 12) dX12_opens_60 (by decide) ?_
  cases e
  exact V_pick [2, 3, 1, 0] rfl (kI _ rfl)
set_option maxRecDepth 100000 in
def F_X12_opens_b55 (v0 : Nat) (v2 : Int32) (v4 : Int32) (h : Hp) : Option ((Int32 × Int32 × Int32 × Hp) ⊕ (Int32 × Hp)) :=
  F_X12_opens_b56 v0 v2 v4 (0 : Int32) h
set_option maxHeartbeats 4000000 in
set_option maxRecDepth 100000 in
theorem r_X12_opens_b55 (v0 : Nat) (v2 : Int32) (v4 : Int32) (h : Hp) {x : Cx} {o : ((Int32 × Int32 × Int32 × Hp) ⊕ (Int32 × Hp))} (e : F_X12_opens_b55 v0 v2 v4 h = some o) (kI : ∀ z, o = .inl z → V M_X12_opens x 3 12 [(0, .ref v0), (2, .int z.1), (3, .int z.2.1), (4, .int z.2.2.1)] [] z.2.2.2 0 0) (kE63 : ∀ z : Int32 × Hp, o = .inr z → V M_X12_opens x 3 63 [(0, .ref v0), (3, .int z.1)] [] z.2 0 0) : V M_X12_opens x 3 55 [(0, .ref v0), (2, .int v2), (4, .int v4)] [] h 0 0 := by
  unfold F_X12_opens_b55 at e
  refine V_iconst (pc := 55) (v := (0 : Int32)) dX12_opens_55 (by decide) ?_
  exact V_pick [0, 1, 2] rfl (r_X12_opens_b56 v0 v2 v4 (0 : Int32) h e kI kE63)
set_option maxRecDepth 100000 in
def F_X12_opens_l12 (v0 : Nat) (v2 : Int32) (v3 : Int32) (v4 : Int32) (h : Hp) : Option ((Int32 × Int32 × Int32 × Hp) ⊕ (Int32 × Hp)) :=
  (if v4 < 0 then some (.inr (v3, h)) else gd (decide (kd h v0 = 11)) <| ob (zR h v0 15) fun q5 => gd (decide (kd h q5 = 13)) <| gd (ix v4 (zl h q5)) <| (if v3 = 0 then F_X12_opens_b55 v0 (v2 / (8 : Int32)) v4 (setI h q5 (v4).toNatClampNeg (v2 - v2 / (8 : Int32) * (8 : Int32))) else ob (zR (setI h q5 (v4).toNatClampNeg (v2 - v2 / (8 : Int32) * (8 : Int32))) v0 15) fun q9 => gd (decide (kd (setI h q5 (v4).toNatClampNeg (v2 - v2 / (8 : Int32) * (8 : Int32))) q9 = 13)) <| gd (ix v4 (zl (setI h q5 (v4).toNatClampNeg (v2 - v2 / (8 : Int32) * (8 : Int32))) q9)) <| ob (F_X12_rooms v0 (setI h q5 (v4).toNatClampNeg (v2 - v2 / (8 : Int32) * (8 : Int32)))) fun r14 => (if r14 ≤ (zI (setI h q5 (v4).toNatClampNeg (v2 - v2 / (8 : Int32) * (8 : Int32))) q9 (v4).toNatClampNeg) then F_X12_opens_b55 v0 (v2 / (8 : Int32)) v4 (setI h q5 (v4).toNatClampNeg (v2 - v2 / (8 : Int32) * (8 : Int32))) else F_X12_opens_b56 v0 (v2 / (8 : Int32)) v4 (1 : Int32) (setI h q5 (v4).toNatClampNeg (v2 - v2 / (8 : Int32) * (8 : Int32))))))
set_option maxHeartbeats 4000000 in
set_option maxRecDepth 100000 in
theorem r_X12_opens_l12 (v0 : Nat) (v2 : Int32) (v3 : Int32) (v4 : Int32) (h : Hp) {x : Cx} {o : ((Int32 × Int32 × Int32 × Hp) ⊕ (Int32 × Hp))} (e : F_X12_opens_l12 v0 v2 v3 v4 h = some o) (kI : ∀ z, o = .inl z → V M_X12_opens x 3 12 [(0, .ref v0), (2, .int z.1), (3, .int z.2.1), (4, .int z.2.2.1)] [] z.2.2.2 0 0) (kE63 : ∀ z : Int32 × Hp, o = .inr z → V M_X12_opens x 3 63 [(0, .ref v0), (3, .int z.1)] [] z.2 0 0) : V M_X12_opens x 3 12 [(0, .ref v0), (2, .int v2), (3, .int v3), (4, .int v4)] [] h 0 0 := by
  unfold F_X12_opens_l12 at e
  refine V_iload (pc := 12) (i := 4) dX12_opens_12 rfl ?_
  refine V_if_lt (pc := 14) (tgt := 63) dX12_opens_14 (by decide) (fun c17 => ?_) (fun c17 => ?_)
  · rw [if_pos c17] at e
    cases e
    exact V_pick [0, 2] rfl (kE63 _ rfl)
  · rw [if_neg c17] at e
    refine V_pick [0, 1, 2, 3] rfl ?_
    refine V_aload_n (pc := 17) (i := 0) dX12_opens_17 rfl rfl ?_
    obtain ⟨g4, e⟩ := gd_some e
    obtain ⟨q5, g6, e⟩ := ob_some e
    refine V_getR (pc := 18) (ci := 11) (k := 15) (b := q5) dX12_opens_18 fl_X12_36 rfl (of_decide_eq_true g4) g6 ?_
    refine V_iload (pc := 21) (i := 4) dX12_opens_21 rfl ?_
    refine V_iload_n (pc := 23) (i := 2) dX12_opens_23 rfl rfl ?_
    refine V_bipush (pc := 24) (v := (8 : Int32)) dX12_opens_24 (by decide) ?_
    refine V_irem (pc := 26) dX12_opens_26 (by decide) ?_
    obtain ⟨g7, e⟩ := gd_some e
    obtain ⟨g8, e⟩ := gd_some e
    refine V_iast (pc := 27) dX12_opens_27 (of_decide_eq_true g7) (ix_in g8) ?_
    refine V_iload_n (pc := 28) (i := 2) dX12_opens_28 rfl rfl ?_
    refine V_bipush (pc := 29) (v := (8 : Int32)) dX12_opens_29 (by decide) ?_
    refine V_idiv (pc := 31) dX12_opens_31 (by decide) ?_
    refine V_istore_n (pc := 32) (i := 2) (lv' := [(2, .int (v2 / (8 : Int32))), (0, .ref v0), (3, .int v3), (4, .int v4)]) dX12_opens_32 rfl (by decide) rfl ?_
    refine V_iload_n (pc := 33) (i := 3) dX12_opens_33 rfl rfl ?_
    refine V_if_eq (pc := 34) (tgt := 55) dX12_opens_34 (by decide) (fun c16 => ?_) (fun c16 => ?_)
    · rw [if_pos c16] at e
      exact V_pick [1, 0, 3] rfl (r_X12_opens_b55 v0 (v2 / (8 : Int32)) v4 (setI h q5 (v4).toNatClampNeg (v2 - v2 / (8 : Int32) * (8 : Int32))) e kI kE63)
    · rw [if_neg c16] at e
      refine V_pick [1, 0, 3] rfl ?_
      refine V_aload_n (pc := 37) (i := 0) dX12_opens_37 rfl rfl ?_
      obtain ⟨q9, g10, e⟩ := ob_some e
      refine V_getR (pc := 38) (ci := 11) (k := 15) (b := q9) dX12_opens_38 fl_X12_36 rfl (of_decide_eq_true g4) g10 ?_
      refine V_iload (pc := 41) (i := 4) dX12_opens_41 rfl ?_
      obtain ⟨g11, e⟩ := gd_some e
      obtain ⟨g12, e⟩ := gd_some e
      refine V_iald (pc := 43) dX12_opens_43 (of_decide_eq_true g11) (ix_in g12) ?_
      refine V_aload_n (pc := 44) (i := 0) dX12_opens_44 rfl rfl ?_
      obtain ⟨r14, g13, e⟩ := ob_some e
      refine V_callV (pc := 45) (bc := 0) (bs := 0) (mc := 0) (ms := 0) (st := [.int (zI (setI h q5 (v4).toNatClampNeg (v2 - v2 / (8 : Int32) * (8 : Int32))) q9 (v4).toNatClampNeg)]) (As := []) (a := v0) (h' := (setI h q5 (v4).toNatClampNeg (v2 - v2 / (8 : Int32) * (8 : Int32)))) (r := some (.int r14)) dX12_opens_45 ml_X12_60 (ci := 11) rfl (of_decide_eq_true g4) rfl rfl (Nat.le_of_ble_eq_true rfl) (d' := 0) (by decide) (c_X12_rooms (l := x.2.1) v0 (setI h q5 (v4).toNatClampNeg (v2 - v2 / (8 : Int32) * (8 : Int32))) g13) ?_
      refine V_icmp_ge (pc := 48) (tgt := 55) dX12_opens_48 (by decide) (fun c15 => ?_) (fun c15 => ?_)
      · rw [if_pos c15] at e
        exact V_pick [0, 1, 2] rfl (r_X12_opens_b55 v0 (v2 / (8 : Int32)) v4 (setI h q5 (v4).toNatClampNeg (v2 - v2 / (8 : Int32) * (8 : Int32))) e kI kE63)
      · rw [if_neg c15] at e
        refine V_pick [0, 1, 2] rfl ?_
        refine V_iconst (pc := 51) (v := (1 : Int32)) dX12_opens_51 (by decide) ?_
        refine V_goto (pc := 52) (tgt := 56) dX12_opens_52 (by decide) ?_
        exact V_pick [0, 1, 2] rfl (r_X12_opens_b56 v0 (v2 / (8 : Int32)) v4 (1 : Int32) (setI h q5 (v4).toNatClampNeg (v2 - v2 / (8 : Int32) * (8 : Int32))) e kI kE63)
set_option maxRecDepth 100000 in
def F_X12_opens_b79 (t0 : Int32) (h : Hp) : Option (Int32 × Hp) :=
  gd (decide (t0 = 0 ∨ t0 = 1)) <| some (t0, h)
set_option maxHeartbeats 4000000 in
set_option maxRecDepth 100000 in
theorem r_X12_opens_b79 (t0 : Int32) (h : Hp) {x : Cx} {r : Int32} {hz : Hp} (e : F_X12_opens_b79 t0 h = some (r, hz)) (hF : Fin9 M_X12_opens x (some .boolean) (some (.int r)) hz) : V M_X12_opens x 3 79 [] [.int t0] h 0 0 := by
  unfold F_X12_opens_b79 at e
  obtain ⟨g20, e⟩ := gd_some e
  cases e
  exact V_zret (pc := 79) dX12_opens_79 (z01 (of_decide_eq_true g20)) hF
set_option maxRecDepth 100000 in
def F_X12_opens_b78  (h : Hp) : Option (Int32 × Hp) :=
  F_X12_opens_b79 (0 : Int32) h
set_option maxHeartbeats 4000000 in
set_option maxRecDepth 100000 in
theorem r_X12_opens_b78  (h : Hp) {x : Cx} {r : Int32} {hz : Hp} (e : F_X12_opens_b78  h = some (r, hz)) (hF : Fin9 M_X12_opens x (some .boolean) (some (.int r)) hz) : V M_X12_opens x 3 78 [] [] h 0 0 := by
  unfold F_X12_opens_b78 at e
  refine V_iconst (pc := 78) (v := (0 : Int32)) dX12_opens_78 (by decide) ?_
  exact V_pick [] rfl (r_X12_opens_b79 (0 : Int32) h e hF)
set_option maxRecDepth 100000 in
def F_X12_opens_b0 (v0 : Nat) (v1 : Int32) (h : Hp) : Option (Int32 × Hp) :=
  ob (F_X12_guests v0 h) fun r2 => gd (decide (kd h v0 = 11)) <| ob (iter (fun z : Int32 × Int32 × Int32 × Hp => F_X12_opens_l12 v0 z.1 z.2.1 z.2.2.1 z.2.2.2) FU (v1, (1 : Int32), r2 - (1 : Int32), h)) (fun z => un2 z fun w18 h19 => (if w18 = 0 then F_X12_opens_b78 h19 else ob (F_X12_areBeds v0 h19) fun r22 => gd (decide (kd h19 v0 = 11)) <| (if r22 = 0 then F_X12_opens_b78 h19 else F_X12_opens_b79 (1 : Int32) h19)))
set_option maxHeartbeats 4000000 in
set_option maxRecDepth 100000 in
theorem r_X12_opens_b0 (v0 : Nat) (v1 : Int32) (h : Hp) {x : Cx} {r : Int32} {hz : Hp} (e : F_X12_opens_b0 v0 v1 h = some (r, hz)) (hF : Fin9 M_X12_opens x (some .boolean) (some (.int r)) hz) : V M_X12_opens x 3 0 [(0, .ref v0), (1, .int v1)] [] h 0 0 := by
  unfold F_X12_opens_b0 at e
  refine V_iload_n (pc := 0) (i := 1) dX12_opens_0 rfl rfl ?_
  refine V_istore_n (pc := 1) (i := 2) (lv' := [(2, .int v1), (0, .ref v0), (1, .int v1)]) dX12_opens_1 rfl (by decide) rfl ?_
  refine V_iconst (pc := 2) (v := (1 : Int32)) dX12_opens_2 (by decide) ?_
  refine V_istore_n (pc := 3) (i := 3) (lv' := [(3, .int (1 : Int32)), (2, .int v1), (0, .ref v0), (1, .int v1)]) dX12_opens_3 rfl (by decide) rfl ?_
  refine V_aload_n (pc := 4) (i := 0) dX12_opens_4 rfl rfl ?_
  obtain ⟨r2, g1, e⟩ := ob_some e
  obtain ⟨g3, e⟩ := gd_some e
  refine V_callV (pc := 5) (bc := 0) (bs := 0) (mc := 0) (ms := 0) (st := []) (As := []) (a := v0) (h' := h) (r := some (.int r2)) dX12_opens_5 ml_X12_68 (ci := 11) rfl (of_decide_eq_true g3) rfl rfl (Nat.le_of_ble_eq_true rfl) (d' := 0) (by decide) (c_X12_guests (l := x.2.1) v0 h g1) ?_
  refine V_iconst (pc := 8) (v := (1 : Int32)) dX12_opens_8 (by decide) ?_
  refine V_isub (pc := 9) dX12_opens_9 ?_
  refine V_istore (pc := 10) (i := 4) (lv' := [(4, .int (r2 - (1 : Int32))), (3, .int (1 : Int32)), (2, .int v1), (0, .ref v0), (1, .int v1)]) dX12_opens_10 (by decide) rfl ?_
  refine V_pick [3, 2, 1, 0] rfl ?_
  obtain ⟨y26, g27, e⟩ := ob_some e
  refine iter_V (P := fun z : Int32 × Int32 × Int32 × Hp => V M_X12_opens x 3 12 [(0, .ref v0), (2, .int z.1), (3, .int z.2.1), (4, .int z.2.2.1)] [] z.2.2.2 0 0) (E := fun z : Int32 × Hp => V M_X12_opens x 3 63 [(0, .ref v0), (3, .int z.1)] [] z.2 0 0) (fun z o e9 k1 k2 => r_X12_opens_l12 v0 z.1 z.2.1 z.2.2.1 z.2.2.2 e9 (fun z hz9 => k1 z hz9) (fun z hz9 => k2 _ hz9)) _ _ _ g27 ?_
  clear g27
  obtain ⟨w18, h19⟩ := y26
  replace e : ((if w18 = 0 then F_X12_opens_b78 h19 else ob (F_X12_areBeds v0 h19) fun r22 => gd (decide (kd h19 v0 = 11)) <| (if r22 = 0 then F_X12_opens_b78 h19 else F_X12_opens_b79 (1 : Int32) h19))) = some (r, hz) := e
  show V M_X12_opens x 3 63 [(0, .ref v0), (3, .int w18)] [] h19 0 0
  refine V_iload_n (pc := 63) (i := 3) dX12_opens_63 rfl rfl ?_
  refine V_if_eq (pc := 64) (tgt := 78) dX12_opens_64 (by decide) (fun c25 => ?_) (fun c25 => ?_)
  · rw [if_pos c25] at e
    exact V_pick [] rfl (r_X12_opens_b78 h19 e hF)
  · rw [if_neg c25] at e
    refine V_pick [0] rfl ?_
    refine V_aload_n (pc := 67) (i := 0) dX12_opens_67 rfl rfl ?_
    obtain ⟨r22, g21, e⟩ := ob_some e
    obtain ⟨g23, e⟩ := gd_some e
    refine V_callV (pc := 68) (bc := 0) (bs := 0) (mc := 0) (ms := 0) (st := []) (As := []) (a := v0) (h' := h19) (r := some (.int r22)) dX12_opens_68 ml_X12_331 (ci := 11) rfl (of_decide_eq_true g23) rfl rfl (Nat.le_of_ble_eq_true rfl) (d' := 2) (by decide) (c_X12_areBeds (l := x.2.1) v0 h19 g21) ?_
    refine V_if_eq (pc := 71) (tgt := 78) dX12_opens_71 (by decide) (fun c24 => ?_) (fun c24 => ?_)
    · rw [if_pos c24] at e
      exact V_pick [] rfl (r_X12_opens_b78 h19 e hF)
    · rw [if_neg c24] at e
      refine V_pick [] rfl ?_
      refine V_iconst (pc := 74) (v := (1 : Int32)) dX12_opens_74 (by decide) ?_
      refine V_goto (pc := 75) (tgt := 79) dX12_opens_75 (by decide) ?_
      exact V_pick [] rfl (r_X12_opens_b79 (1 : Int32) h19 e hF)
def F_X12_opens (v0 : Nat) (v1 : Int32) (h : Hp) : Option (Int32 × Hp) := F_X12_opens_b0 v0 v1 h
theorem c_X12_opens {l : Launch} (v0 : Nat) (v1 : Int32) (h : Hp) {r : Int32} {hz : Hp} (e : F_X12_opens v0 v1 h = some (r, hz)) : Ct l yX12_opens M_X12_opens (some .boolean) 3 [.ref v0, .int v1] h 0 0 (some (.int r)) hz :=
  Ct_of rfl rfl (fun q => by cases q) (Nat.le_of_ble_eq_true rfl) (fun x _ hF => V_pick [0, 1] rfl (r_X12_opens_b0 v0 v1 h e hF))
theorem dX12_laysAll_0 : decode cX12_laysAll 0 = .ok (.iconst 0, 1) := by decide +kernel
theorem dX12_laysAll_1 : decode cX12_laysAll 1 = .ok (.istore_n 1, 1) := by decide +kernel
theorem dX12_laysAll_2 : decode cX12_laysAll 2 = .ok (.iload_n 1, 1) := by decide +kernel
theorem dX12_laysAll_3 : decode cX12_laysAll 3 = .ok (.aload_n 0, 1) := by decide +kernel
theorem dX12_laysAll_4 : decode cX12_laysAll 4 = .ok (.invokevirtual 337, 3) := by decide +kernel
theorem dX12_laysAll_7 : decode cX12_laysAll 7 = .ok (.if_icmp .ge 35, 3) := by decide +kernel
theorem dX12_laysAll_10 : decode cX12_laysAll 10 = .ok (.aload_n 0, 1) := by decide +kernel
theorem dX12_laysAll_11 : decode cX12_laysAll 11 = .ok (.getfield 46, 3) := by decide +kernel
theorem dX12_laysAll_14 : decode cX12_laysAll 14 = .ok (.iload_n 1, 1) := by decide +kernel
theorem dX12_laysAll_15 : decode cX12_laysAll 15 = .ok (.aload_n 0, 1) := by decide +kernel
theorem dX12_laysAll_16 : decode cX12_laysAll 16 = .ok (.iload_n 1, 1) := by decide +kernel
theorem dX12_laysAll_17 : decode cX12_laysAll 17 = .ok (.invokevirtual 340, 3) := by decide +kernel
theorem dX12_laysAll_20 : decode cX12_laysAll 20 = .ok (.ifCond .eq 14, 3) := by decide +kernel
theorem dX12_laysAll_23 : decode cX12_laysAll 23 = .ok (.aload_n 0, 1) := by decide +kernel
theorem dX12_laysAll_24 : decode cX12_laysAll 24 = .ok (.invokevirtual 293, 3) := by decide +kernel
theorem dX12_laysAll_27 : decode cX12_laysAll 27 = .ok (.ifCond .eq 7, 3) := by decide +kernel
theorem dX12_laysAll_30 : decode cX12_laysAll 30 = .ok (.iconst 1, 1) := by decide +kernel
theorem dX12_laysAll_31 : decode cX12_laysAll 31 = .ok (.goto 4, 3) := by decide +kernel
theorem dX12_laysAll_34 : decode cX12_laysAll 34 = .ok (.iconst 0, 1) := by decide +kernel
theorem dX12_laysAll_35 : decode cX12_laysAll 35 = .ok (.bastore, 1) := by decide +kernel
theorem dX12_laysAll_36 : decode cX12_laysAll 36 = .ok (.iinc 1 1, 3) := by decide +kernel
theorem dX12_laysAll_39 : decode cX12_laysAll 39 = .ok (.goto (-37), 3) := by decide +kernel
theorem dX12_laysAll_42 : decode cX12_laysAll 42 = .ok (.return_, 1) := by decide +kernel
set_option maxRecDepth 100000 in
def F_X12_laysAll_b35 (v0 : Nat) (v1 : Int32) (t0 : Nat) (t1 : Int32) (t2 : Int32) (h : Hp) : Option ((Int32 × Hp) ⊕ Hp) :=
  gd (decide (kd h t0 = 14)) <| gd (ix t1 (zl h t0)) <| some (.inl (v1 + (1 : Int32), setI h t0 (t1).toNatClampNeg (vp_nar .boolean t2)))
set_option maxHeartbeats 4000000 in
set_option maxRecDepth 100000 in
theorem r_X12_laysAll_b35 (v0 : Nat) (v1 : Int32) (t0 : Nat) (t1 : Int32) (t2 : Int32) (h : Hp) {x : Cx} {o : ((Int32 × Hp) ⊕ Hp)} (e : F_X12_laysAll_b35 v0 v1 t0 t1 t2 h = some o) (kI : ∀ z, o = .inl z → V M_X12_laysAll x 6 2 [(0, .ref v0), (1, .int z.1)] [] z.2 0 0) (kE42 : ∀ z : Hp, o = .inr z → V M_X12_laysAll x 6 42 [] [] z 0 0) : V M_X12_laysAll x 6 35 [(0, .ref v0), (1, .int v1)] [.int t2, .int t1, .ref t0] h 0 0 := by
  unfold F_X12_laysAll_b35 at e
  obtain ⟨g9, e⟩ := gd_some e
  obtain ⟨g10, e⟩ := gd_some e
  refine V_zast (pc := 35) dX12_laysAll_35 (of_decide_eq_true g9) (ix_in g10) ?_
  refine V_iinc (pc := 36) (i := 1) (u := v1 + (1 : Int32)) (lv' := [(1, .int (v1 + (1 : Int32))), (0, .ref v0)]) dX12_laysAll_36 rfl rfl (by decide) rfl ?_
  refine V_goto (pc := 39) (tgt := 2) dX12_laysAll_39 (by decide) ?_
  cases e
  exact V_pick [1, 0] rfl (kI _ rfl)
set_option maxRecDepth 100000 in
def F_X12_laysAll_b34 (v0 : Nat) (v1 : Int32) (t0 : Nat) (t1 : Int32) (h : Hp) : Option ((Int32 × Hp) ⊕ Hp) :=
  F_X12_laysAll_b35 v0 v1 t0 t1 (0 : Int32) h
set_option maxHeartbeats 4000000 in
set_option maxRecDepth 100000 in
theorem r_X12_laysAll_b34 (v0 : Nat) (v1 : Int32) (t0 : Nat) (t1 : Int32) (h : Hp) {x : Cx} {o : ((Int32 × Hp) ⊕ Hp)} (e : F_X12_laysAll_b34 v0 v1 t0 t1 h = some o) (kI : ∀ z, o = .inl z → V M_X12_laysAll x 6 2 [(0, .ref v0), (1, .int z.1)] [] z.2 0 0) (kE42 : ∀ z : Hp, o = .inr z → V M_X12_laysAll x 6 42 [] [] z 0 0) : V M_X12_laysAll x 6 34 [(0, .ref v0), (1, .int v1)] [.int t1, .ref t0] h 0 0 := by
  unfold F_X12_laysAll_b34 at e
  refine V_iconst (pc := 34) (v := (0 : Int32)) dX12_laysAll_34 (by decide) ?_
  exact V_pick [0, 1] rfl (r_X12_laysAll_b35 v0 v1 t0 t1 (0 : Int32) h e kI kE42)
set_option maxRecDepth 100000 in
def F_X12_laysAll_l2 (v0 : Nat) (v1 : Int32) (h : Hp) : Option ((Int32 × Hp) ⊕ Hp) :=
  ob (F_X12_many v0 h) fun r2 => gd (decide (kd h v0 = 11)) <| (if r2 ≤ v1 then some (.inr h) else ob (zR h v0 20) fun q4 => ob2 (F_X12_opens v0 v1 h) fun r7 h8 => (if r7 = 0 then F_X12_laysAll_b34 v0 v1 q4 v1 h8 else ob (F_X12_isLevel v0 h8) fun r12 => gd (decide (kd h8 v0 = 11)) <| (if r12 = 0 then F_X12_laysAll_b34 v0 v1 q4 v1 h8 else F_X12_laysAll_b35 v0 v1 q4 v1 (1 : Int32) h8)))
set_option maxHeartbeats 4000000 in
set_option maxRecDepth 100000 in
theorem r_X12_laysAll_l2 (v0 : Nat) (v1 : Int32) (h : Hp) {x : Cx} {o : ((Int32 × Hp) ⊕ Hp)} (e : F_X12_laysAll_l2 v0 v1 h = some o) (kI : ∀ z, o = .inl z → V M_X12_laysAll x 6 2 [(0, .ref v0), (1, .int z.1)] [] z.2 0 0) (kE42 : ∀ z : Hp, o = .inr z → V M_X12_laysAll x 6 42 [] [] z 0 0) : V M_X12_laysAll x 6 2 [(0, .ref v0), (1, .int v1)] [] h 0 0 := by
  unfold F_X12_laysAll_l2 at e
  refine V_iload_n (pc := 2) (i := 1) dX12_laysAll_2 rfl rfl ?_
  refine V_aload_n (pc := 3) (i := 0) dX12_laysAll_3 rfl rfl ?_
  obtain ⟨r2, g1, e⟩ := ob_some e
  obtain ⟨g3, e⟩ := gd_some e
  refine V_callV (pc := 4) (bc := 0) (bs := 0) (mc := 0) (ms := 0) (st := [.int v1]) (As := []) (a := v0) (h' := h) (r := some (.int r2)) dX12_laysAll_4 ml_X12_337 (ci := 11) rfl (of_decide_eq_true g3) rfl rfl (Nat.le_of_ble_eq_true rfl) (d' := 1) (by decide) (c_X12_many (l := x.2.1) v0 h g1) ?_
  refine V_icmp_ge (pc := 7) (tgt := 42) dX12_laysAll_7 (by decide) (fun c16 => ?_) (fun c16 => ?_)
  · rw [if_pos c16] at e
    cases e
    exact V_pick [] rfl (kE42 _ rfl)
  · rw [if_neg c16] at e
    refine V_pick [0, 1] rfl ?_
    refine V_aload_n (pc := 10) (i := 0) dX12_laysAll_10 rfl rfl ?_
    obtain ⟨q4, g5, e⟩ := ob_some e
    refine V_getR (pc := 11) (ci := 11) (k := 20) (b := q4) dX12_laysAll_11 fl_X12_46 rfl (of_decide_eq_true g3) g5 ?_
    refine V_iload_n (pc := 14) (i := 1) dX12_laysAll_14 rfl rfl ?_
    refine V_aload_n (pc := 15) (i := 0) dX12_laysAll_15 rfl rfl ?_
    refine V_iload_n (pc := 16) (i := 1) dX12_laysAll_16 rfl rfl ?_
    obtain ⟨r7, h8, g6, e⟩ := ob2_some e
    refine V_callV (pc := 17) (bc := 0) (bs := 0) (mc := 0) (ms := 0) (st := [.int v1, .ref q4]) (As := [.int v1]) (a := v0) (h' := h8) (r := some (.int r7)) dX12_laysAll_17 ml_X12_340 (ci := 11) rfl (of_decide_eq_true g3) rfl rfl (Nat.le_of_ble_eq_true rfl) (d' := 3) (by decide) (c_X12_opens (l := x.2.1) v0 v1 h g6) ?_
    refine V_if_eq (pc := 20) (tgt := 34) dX12_laysAll_20 (by decide) (fun c15 => ?_) (fun c15 => ?_)
    · rw [if_pos c15] at e
      exact V_pick [0, 1] rfl (r_X12_laysAll_b34 v0 v1 q4 v1 h8 e kI kE42)
    · rw [if_neg c15] at e
      refine V_pick [0, 1] rfl ?_
      refine V_aload_n (pc := 23) (i := 0) dX12_laysAll_23 rfl rfl ?_
      obtain ⟨r12, g11, e⟩ := ob_some e
      obtain ⟨g13, e⟩ := gd_some e
      refine V_callV (pc := 24) (bc := 0) (bs := 0) (mc := 0) (ms := 0) (st := [.int v1, .ref q4]) (As := []) (a := v0) (h' := h8) (r := some (.int r12)) dX12_laysAll_24 ml_X12_293 (ci := 11) rfl (of_decide_eq_true g13) rfl rfl (Nat.le_of_ble_eq_true rfl) (d' := 5) (by decide) (c_X12_isLevel (l := x.2.1) v0 h8 g11) ?_
      refine V_if_eq (pc := 27) (tgt := 34) dX12_laysAll_27 (by decide) (fun c14 => ?_) (fun c14 => ?_)
      · rw [if_pos c14] at e
        exact V_pick [0, 1] rfl (r_X12_laysAll_b34 v0 v1 q4 v1 h8 e kI kE42)
      · rw [if_neg c14] at e
        refine V_pick [0, 1] rfl ?_
        refine V_iconst (pc := 30) (v := (1 : Int32)) dX12_laysAll_30 (by decide) ?_
        refine V_goto (pc := 31) (tgt := 35) dX12_laysAll_31 (by decide) ?_
        exact V_pick [0, 1] rfl (r_X12_laysAll_b35 v0 v1 q4 v1 (1 : Int32) h8 e kI kE42)
set_option maxRecDepth 100000 in
def F_X12_laysAll_b0 (v0 : Nat) (h : Hp) : Option (Unit × Hp) :=
  ob (iter (fun z : Int32 × Hp => F_X12_laysAll_l2 v0 z.1 z.2) FU ((0 : Int32), h)) (fun h17 => some ((), h17))
set_option maxHeartbeats 4000000 in
set_option maxRecDepth 100000 in
theorem r_X12_laysAll_b0 (v0 : Nat) (h : Hp) {x : Cx} {r : Unit} {hz : Hp} (e : F_X12_laysAll_b0 v0 h = some (r, hz)) (hF : Fin9 M_X12_laysAll x none none hz) : V M_X12_laysAll x 6 0 [(0, .ref v0)] [] h 0 0 := by
  unfold F_X12_laysAll_b0 at e
  refine V_iconst (pc := 0) (v := (0 : Int32)) dX12_laysAll_0 (by decide) ?_
  refine V_istore_n (pc := 1) (i := 1) (lv' := [(1, .int (0 : Int32)), (0, .ref v0)]) dX12_laysAll_1 rfl (by decide) rfl ?_
  refine V_pick [1, 0] rfl ?_
  obtain ⟨y18, g19, e⟩ := ob_some e
  refine iter_V (P := fun z : Int32 × Hp => V M_X12_laysAll x 6 2 [(0, .ref v0), (1, .int z.1)] [] z.2 0 0) (E := fun z : Hp => V M_X12_laysAll x 6 42 [] [] z 0 0) (fun z o e9 k1 k2 => r_X12_laysAll_l2 v0 z.1 z.2 e9 (fun z hz9 => k1 z hz9) (fun z hz9 => k2 _ hz9)) _ _ _ g19 ?_
  clear g19
  obtain ⟨h17, rfl⟩ : ∃ q, q = y18 := ⟨_, rfl⟩
  replace e : (some ((), h17)) = some (r, hz) := e
  show V M_X12_laysAll x 6 42 [] [] h17 0 0
  cases e
  exact V_vret (pc := 42) dX12_laysAll_42 hF
def F_X12_laysAll (v0 : Nat) (h : Hp) : Option (Unit × Hp) := F_X12_laysAll_b0 v0 h
theorem c_X12_laysAll {l : Launch} (v0 : Nat) (h : Hp) {r : Unit} {hz : Hp} (e : F_X12_laysAll v0 h = some (r, hz)) : Ct l yX12_laysAll M_X12_laysAll none 6 [.ref v0] h 0 0 none hz :=
  Ct_of rfl rfl (fun q => by cases q) (Nat.le_of_ble_eq_true rfl) (fun x _ hF => V_pick [0] rfl (r_X12_laysAll_b0 v0 h e hF))
theorem dX12_findsSeats_0 : decode cX12_findsSeats 0 = .ok (.aload_n 0, 1) := by decide +kernel
theorem dX12_findsSeats_1 : decode cX12_findsSeats 1 = .ok (.iconst (-1), 1) := by decide +kernel
theorem dX12_findsSeats_2 : decode cX12_findsSeats 2 = .ok (.putfield 343, 3) := by decide +kernel
theorem dX12_findsSeats_5 : decode cX12_findsSeats 5 = .ok (.aload_n 0, 1) := by decide +kernel
theorem dX12_findsSeats_6 : decode cX12_findsSeats 6 = .ok (.iconst (-1), 1) := by decide +kernel
theorem dX12_findsSeats_7 : decode cX12_findsSeats 7 = .ok (.putfield 346, 3) := by decide +kernel
theorem dX12_findsSeats_10 : decode cX12_findsSeats 10 = .ok (.aload_n 0, 1) := by decide +kernel
theorem dX12_findsSeats_11 : decode cX12_findsSeats 11 = .ok (.iconst 0, 1) := by decide +kernel
theorem dX12_findsSeats_12 : decode cX12_findsSeats 12 = .ok (.putfield 349, 3) := by decide +kernel
theorem dX12_findsSeats_15 : decode cX12_findsSeats 15 = .ok (.iconst 0, 1) := by decide +kernel
theorem dX12_findsSeats_16 : decode cX12_findsSeats 16 = .ok (.istore_n 1, 1) := by decide +kernel
theorem dX12_findsSeats_17 : decode cX12_findsSeats 17 = .ok (.iload_n 1, 1) := by decide +kernel
theorem dX12_findsSeats_18 : decode cX12_findsSeats 18 = .ok (.aload_n 0, 1) := by decide +kernel
theorem dX12_findsSeats_19 : decode cX12_findsSeats 19 = .ok (.invokevirtual 337, 3) := by decide +kernel
theorem dX12_findsSeats_22 : decode cX12_findsSeats 22 = .ok (.if_icmp .ge 63, 3) := by decide +kernel
theorem dX12_findsSeats_25 : decode cX12_findsSeats 25 = .ok (.aload_n 0, 1) := by decide +kernel
theorem dX12_findsSeats_26 : decode cX12_findsSeats 26 = .ok (.getfield 46, 3) := by decide +kernel
theorem dX12_findsSeats_29 : decode cX12_findsSeats 29 = .ok (.iload_n 1, 1) := by decide +kernel
theorem dX12_findsSeats_30 : decode cX12_findsSeats 30 = .ok (.baload, 1) := by decide +kernel
theorem dX12_findsSeats_31 : decode cX12_findsSeats 31 = .ok (.ifCond .ne 6, 3) := by decide +kernel
theorem dX12_findsSeats_34 : decode cX12_findsSeats 34 = .ok (.goto 45, 3) := by decide +kernel
theorem dX12_findsSeats_37 : decode cX12_findsSeats 37 = .ok (.aload_n 0, 1) := by decide +kernel
theorem dX12_findsSeats_38 : decode cX12_findsSeats 38 = .ok (.dup, 1) := by decide +kernel
theorem dX12_findsSeats_39 : decode cX12_findsSeats 39 = .ok (.getfield 349, 3) := by decide +kernel
theorem dX12_findsSeats_42 : decode cX12_findsSeats 42 = .ok (.iconst 1, 1) := by decide +kernel
theorem dX12_findsSeats_43 : decode cX12_findsSeats 43 = .ok (.iadd, 1) := by decide +kernel
theorem dX12_findsSeats_44 : decode cX12_findsSeats 44 = .ok (.putfield 349, 3) := by decide +kernel
theorem dX12_findsSeats_47 : decode cX12_findsSeats 47 = .ok (.aload_n 0, 1) := by decide +kernel
theorem dX12_findsSeats_48 : decode cX12_findsSeats 48 = .ok (.iload_n 1, 1) := by decide +kernel
theorem dX12_findsSeats_49 : decode cX12_findsSeats 49 = .ok (.invokevirtual 340, 3) := by decide +kernel
theorem dX12_findsSeats_52 : decode cX12_findsSeats 52 = .ok (.pop, 1) := by decide +kernel
theorem dX12_findsSeats_53 : decode cX12_findsSeats 53 = .ok (.aload_n 0, 1) := by decide +kernel
theorem dX12_findsSeats_54 : decode cX12_findsSeats 54 = .ok (.invokevirtual 312, 3) := by decide +kernel
theorem dX12_findsSeats_57 : decode cX12_findsSeats 57 = .ok (.istore_n 2, 1) := by decide +kernel
theorem dX12_findsSeats_58 : decode cX12_findsSeats 58 = .ok (.iload_n 2, 1) := by decide +kernel
theorem dX12_findsSeats_59 : decode cX12_findsSeats 59 = .ok (.aload_n 0, 1) := by decide +kernel
theorem dX12_findsSeats_60 : decode cX12_findsSeats 60 = .ok (.getfield 346, 3) := by decide +kernel
theorem dX12_findsSeats_63 : decode cX12_findsSeats 63 = .ok (.if_icmp .gt 6, 3) := by decide +kernel
theorem dX12_findsSeats_66 : decode cX12_findsSeats 66 = .ok (.goto 13, 3) := by decide +kernel
theorem dX12_findsSeats_69 : decode cX12_findsSeats 69 = .ok (.aload_n 0, 1) := by decide +kernel
theorem dX12_findsSeats_70 : decode cX12_findsSeats 70 = .ok (.iload_n 1, 1) := by decide +kernel
theorem dX12_findsSeats_71 : decode cX12_findsSeats 71 = .ok (.putfield 343, 3) := by decide +kernel
theorem dX12_findsSeats_74 : decode cX12_findsSeats 74 = .ok (.aload_n 0, 1) := by decide +kernel
theorem dX12_findsSeats_75 : decode cX12_findsSeats 75 = .ok (.iload_n 2, 1) := by decide +kernel
theorem dX12_findsSeats_76 : decode cX12_findsSeats 76 = .ok (.putfield 346, 3) := by decide +kernel
theorem dX12_findsSeats_79 : decode cX12_findsSeats 79 = .ok (.iinc 1 1, 3) := by decide +kernel
theorem dX12_findsSeats_82 : decode cX12_findsSeats 82 = .ok (.goto (-65), 3) := by decide +kernel
theorem dX12_findsSeats_85 : decode cX12_findsSeats 85 = .ok (.return_, 1) := by decide +kernel
set_option maxRecDepth 100000 in
def F_X12_findsSeats_b79 (v0 : Nat) (v1 : Int32) (h : Hp) : Option ((Int32 × Hp) ⊕ Hp) :=
  some (.inl (v1 + (1 : Int32), h))
set_option maxHeartbeats 4000000 in
set_option maxRecDepth 100000 in
theorem r_X12_findsSeats_b79 (v0 : Nat) (v1 : Int32) (h : Hp) {x : Cx} {o : ((Int32 × Hp) ⊕ Hp)} (e : F_X12_findsSeats_b79 v0 v1 h = some o) (kI : ∀ z, o = .inl z → V M_X12_findsSeats x 6 17 [(0, .ref v0), (1, .int z.1)] [] z.2 0 0) (kE85 : ∀ z : Hp, o = .inr z → V M_X12_findsSeats x 6 85 [] [] z 0 0) : V M_X12_findsSeats x 6 79 [(0, .ref v0), (1, .int v1)] [] h 0 0 := by
  unfold F_X12_findsSeats_b79 at e
  refine V_iinc (pc := 79) (i := 1) (u := v1 + (1 : Int32)) (lv' := [(1, .int (v1 + (1 : Int32))), (0, .ref v0)]) dX12_findsSeats_79 rfl rfl (by decide) rfl ?_
  refine V_goto (pc := 82) (tgt := 17) dX12_findsSeats_82 (by decide) ?_
  cases e
  exact V_pick [1, 0] rfl (kI _ rfl)
set_option maxRecDepth 100000 in
def F_X12_findsSeats_l17 (v0 : Nat) (v1 : Int32) (h : Hp) : Option ((Int32 × Hp) ⊕ Hp) :=
  ob (F_X12_many v0 h) fun r3 => gd (decide (kd h v0 = 11)) <| (if r3 ≤ v1 then some (.inr h) else ob (zR h v0 20) fun q5 => gd (decide (kd h q5 = 14)) <| gd (ix v1 (zl h q5)) <| (if (zI h q5 (v1).toNatClampNeg) = 0 then F_X12_findsSeats_b79 v0 v1 h else ob2 (F_X12_opens v0 v1 (setI h v0 25 ((zI h v0 25) + (1 : Int32)))) fun r10 h11 => ob2 (F_X12_metByAll v0 h11) fun r13 h14 => gd (decide (kd h11 v0 = 11)) <| gd (decide (kd h14 v0 = 11)) <| (if (zI h14 v0 24) < r13 then F_X12_findsSeats_b79 v0 v1 (setI (setI h14 v0 23 v1) v0 24 r13) else F_X12_findsSeats_b79 v0 v1 h14)))
set_option maxHeartbeats 4000000 in
set_option maxRecDepth 100000 in
theorem r_X12_findsSeats_l17 (v0 : Nat) (v1 : Int32) (h : Hp) {x : Cx} {o : ((Int32 × Hp) ⊕ Hp)} (e : F_X12_findsSeats_l17 v0 v1 h = some o) (kI : ∀ z, o = .inl z → V M_X12_findsSeats x 6 17 [(0, .ref v0), (1, .int z.1)] [] z.2 0 0) (kE85 : ∀ z : Hp, o = .inr z → V M_X12_findsSeats x 6 85 [] [] z 0 0) : V M_X12_findsSeats x 6 17 [(0, .ref v0), (1, .int v1)] [] h 0 0 := by
  unfold F_X12_findsSeats_l17 at e
  refine V_iload_n (pc := 17) (i := 1) dX12_findsSeats_17 rfl rfl ?_
  refine V_aload_n (pc := 18) (i := 0) dX12_findsSeats_18 rfl rfl ?_
  obtain ⟨r3, g2, e⟩ := ob_some e
  obtain ⟨g4, e⟩ := gd_some e
  refine V_callV (pc := 19) (bc := 0) (bs := 0) (mc := 0) (ms := 0) (st := [.int v1]) (As := []) (a := v0) (h' := h) (r := some (.int r3)) dX12_findsSeats_19 ml_X12_337 (ci := 11) rfl (of_decide_eq_true g4) rfl rfl (Nat.le_of_ble_eq_true rfl) (d' := 1) (by decide) (c_X12_many (l := x.2.1) v0 h g2) ?_
  refine V_icmp_ge (pc := 22) (tgt := 85) dX12_findsSeats_22 (by decide) (fun c19 => ?_) (fun c19 => ?_)
  · rw [if_pos c19] at e
    cases e
    exact V_pick [] rfl (kE85 _ rfl)
  · rw [if_neg c19] at e
    refine V_pick [0, 1] rfl ?_
    refine V_aload_n (pc := 25) (i := 0) dX12_findsSeats_25 rfl rfl ?_
    obtain ⟨q5, g6, e⟩ := ob_some e
    refine V_getR (pc := 26) (ci := 11) (k := 20) (b := q5) dX12_findsSeats_26 fl_X12_46 rfl (of_decide_eq_true g4) g6 ?_
    refine V_iload_n (pc := 29) (i := 1) dX12_findsSeats_29 rfl rfl ?_
    obtain ⟨g7, e⟩ := gd_some e
    obtain ⟨g8, e⟩ := gd_some e
    refine V_zald (pc := 30) dX12_findsSeats_30 (of_decide_eq_true g7) (ix_in g8) ?_
    refine V_if_ne (pc := 31) (tgt := 37) dX12_findsSeats_31 (by decide) (fun c18 => ?_) (fun c18 => ?_)
    · rw [if_neg c18] at e
      refine V_pick [0, 1] rfl ?_
      refine V_aload_n (pc := 37) (i := 0) dX12_findsSeats_37 rfl rfl ?_
      refine V_dup (pc := 38) dX12_findsSeats_38 rfl ?_
      refine V_getI (pc := 39) (ci := 11) (k := 25) dX12_findsSeats_39 fl_X12_349 rfl (of_decide_eq_true g4) ?_
      refine V_iconst (pc := 42) (v := (1 : Int32)) dX12_findsSeats_42 (by decide) ?_
      refine V_iadd (pc := 43) dX12_findsSeats_43 ?_
      refine V_putI (pc := 44) (ci := 11) (k := 25) dX12_findsSeats_44 fp_X12_349 rfl (of_decide_eq_true g4) ?_
      refine V_aload_n (pc := 47) (i := 0) dX12_findsSeats_47 rfl rfl ?_
      refine V_iload_n (pc := 48) (i := 1) dX12_findsSeats_48 rfl rfl ?_
      obtain ⟨r10, h11, g9, e⟩ := ob2_some e
      refine V_callV (pc := 49) (bc := 0) (bs := 0) (mc := 0) (ms := 0) (st := []) (As := [.int v1]) (a := v0) (h' := h11) (r := some (.int r10)) dX12_findsSeats_49 ml_X12_340 (ci := 11) rfl (of_decide_eq_true g4) rfl rfl (Nat.le_of_ble_eq_true rfl) (d' := 3) (by decide) (c_X12_opens (l := x.2.1) v0 v1 (setI h v0 25 ((zI h v0 25) + (1 : Int32))) g9) ?_
      refine V_pop (pc := 52) dX12_findsSeats_52 rfl ?_
      refine V_aload_n (pc := 53) (i := 0) dX12_findsSeats_53 rfl rfl ?_
      obtain ⟨r13, h14, g12, e⟩ := ob2_some e
      obtain ⟨g15, e⟩ := gd_some e
      refine V_callV (pc := 54) (bc := 0) (bs := 0) (mc := 0) (ms := 0) (st := []) (As := []) (a := v0) (h' := h14) (r := some (.int r13)) dX12_findsSeats_54 ml_X12_312 (ci := 11) rfl (of_decide_eq_true g15) rfl rfl (Nat.le_of_ble_eq_true rfl) (d' := 5) (by decide) (c_X12_metByAll (l := x.2.1) v0 h11 g12) ?_
      refine V_istore_n (pc := 57) (i := 2) (lv' := [(2, .int r13), (0, .ref v0), (1, .int v1)]) dX12_findsSeats_57 rfl (by decide) rfl ?_
      refine V_iload_n (pc := 58) (i := 2) dX12_findsSeats_58 rfl rfl ?_
      refine V_aload_n (pc := 59) (i := 0) dX12_findsSeats_59 rfl rfl ?_
      obtain ⟨g16, e⟩ := gd_some e
      refine V_getI (pc := 60) (ci := 11) (k := 24) dX12_findsSeats_60 fl_X12_346 rfl (of_decide_eq_true g16) ?_
      refine V_icmp_gt (pc := 63) (tgt := 69) dX12_findsSeats_63 (by decide) (fun c17 => ?_) (fun c17 => ?_)
      · rw [if_pos c17] at e
        refine V_pick [1, 2, 0] rfl ?_
        refine V_aload_n (pc := 69) (i := 0) dX12_findsSeats_69 rfl rfl ?_
        refine V_iload_n (pc := 70) (i := 1) dX12_findsSeats_70 rfl rfl ?_
        refine V_putI (pc := 71) (ci := 11) (k := 23) dX12_findsSeats_71 fp_X12_343 rfl (of_decide_eq_true g16) ?_
        refine V_aload_n (pc := 74) (i := 0) dX12_findsSeats_74 rfl rfl ?_
        refine V_iload_n (pc := 75) (i := 2) dX12_findsSeats_75 rfl rfl ?_
        refine V_putI (pc := 76) (ci := 11) (k := 24) dX12_findsSeats_76 fp_X12_346 rfl (of_decide_eq_true g16) ?_
        exact V_pick [0, 1] rfl (r_X12_findsSeats_b79 v0 v1 (setI (setI h14 v0 23 v1) v0 24 r13) e kI kE85)
      · rw [if_neg c17] at e
        refine V_pick [1, 2] rfl ?_
        refine V_goto (pc := 66) (tgt := 79) dX12_findsSeats_66 (by decide) ?_
        exact V_pick [0, 1] rfl (r_X12_findsSeats_b79 v0 v1 h14 e kI kE85)
    · rw [if_pos c18] at e
      refine V_pick [0, 1] rfl ?_
      refine V_goto (pc := 34) (tgt := 79) dX12_findsSeats_34 (by decide) ?_
      exact V_pick [0, 1] rfl (r_X12_findsSeats_b79 v0 v1 h e kI kE85)
set_option maxRecDepth 100000 in
def F_X12_findsSeats_b0 (v0 : Nat) (h : Hp) : Option (Unit × Hp) :=
  gd (decide (kd h v0 = 11)) <| ob (iter (fun z : Int32 × Hp => F_X12_findsSeats_l17 v0 z.1 z.2) FU ((0 : Int32), setI (setI (setI h v0 23 (-1 : Int32)) v0 24 (-1 : Int32)) v0 25 (0 : Int32))) (fun h20 => some ((), h20))
set_option maxHeartbeats 4000000 in
set_option maxRecDepth 100000 in
theorem r_X12_findsSeats_b0 (v0 : Nat) (h : Hp) {x : Cx} {r : Unit} {hz : Hp} (e : F_X12_findsSeats_b0 v0 h = some (r, hz)) (hF : Fin9 M_X12_findsSeats x none none hz) : V M_X12_findsSeats x 6 0 [(0, .ref v0)] [] h 0 0 := by
  unfold F_X12_findsSeats_b0 at e
  refine V_aload_n (pc := 0) (i := 0) dX12_findsSeats_0 rfl rfl ?_
  refine V_iconst (pc := 1) (v := (-1 : Int32)) dX12_findsSeats_1 (by decide) ?_
  obtain ⟨g1, e⟩ := gd_some e
  refine V_putI (pc := 2) (ci := 11) (k := 23) dX12_findsSeats_2 fp_X12_343 rfl (of_decide_eq_true g1) ?_
  refine V_aload_n (pc := 5) (i := 0) dX12_findsSeats_5 rfl rfl ?_
  refine V_iconst (pc := 6) (v := (-1 : Int32)) dX12_findsSeats_6 (by decide) ?_
  refine V_putI (pc := 7) (ci := 11) (k := 24) dX12_findsSeats_7 fp_X12_346 rfl (of_decide_eq_true g1) ?_
  refine V_aload_n (pc := 10) (i := 0) dX12_findsSeats_10 rfl rfl ?_
  refine V_iconst (pc := 11) (v := (0 : Int32)) dX12_findsSeats_11 (by decide) ?_
  refine V_putI (pc := 12) (ci := 11) (k := 25) dX12_findsSeats_12 fp_X12_349 rfl (of_decide_eq_true g1) ?_
  refine V_iconst (pc := 15) (v := (0 : Int32)) dX12_findsSeats_15 (by decide) ?_
  refine V_istore_n (pc := 16) (i := 1) (lv' := [(1, .int (0 : Int32)), (0, .ref v0)]) dX12_findsSeats_16 rfl (by decide) rfl ?_
  refine V_pick [1, 0] rfl ?_
  obtain ⟨y21, g22, e⟩ := ob_some e
  refine iter_V (P := fun z : Int32 × Hp => V M_X12_findsSeats x 6 17 [(0, .ref v0), (1, .int z.1)] [] z.2 0 0) (E := fun z : Hp => V M_X12_findsSeats x 6 85 [] [] z 0 0) (fun z o e9 k1 k2 => r_X12_findsSeats_l17 v0 z.1 z.2 e9 (fun z hz9 => k1 z hz9) (fun z hz9 => k2 _ hz9)) _ _ _ g22 ?_
  clear g22
  obtain ⟨h20, rfl⟩ : ∃ q, q = y21 := ⟨_, rfl⟩
  replace e : (some ((), h20)) = some (r, hz) := e
  show V M_X12_findsSeats x 6 85 [] [] h20 0 0
  cases e
  exact V_vret (pc := 85) dX12_findsSeats_85 hF
def F_X12_findsSeats (v0 : Nat) (h : Hp) : Option (Unit × Hp) := F_X12_findsSeats_b0 v0 h
theorem c_X12_findsSeats {l : Launch} (v0 : Nat) (h : Hp) {r : Unit} {hz : Hp} (e : F_X12_findsSeats v0 h = some (r, hz)) : Ct l yX12_findsSeats M_X12_findsSeats none 6 [.ref v0] h 0 0 none hz :=
  Ct_of rfl rfl (fun q => by cases q) (Nat.le_of_ble_eq_true rfl) (fun x _ hF => V_pick [0] rfl (r_X12_findsSeats_b0 v0 h e hF))
theorem dX12_numberOf_0 : decode cX12_numberOf 0 = .ok (.aload_n 0, 1) := by decide +kernel
theorem dX12_numberOf_1 : decode cX12_numberOf 1 = .ok (.iload_n 1, 1) := by decide +kernel
theorem dX12_numberOf_2 : decode cX12_numberOf 2 = .ok (.invokevirtual 340, 3) := by decide +kernel
theorem dX12_numberOf_5 : decode cX12_numberOf 5 = .ok (.pop, 1) := by decide +kernel
theorem dX12_numberOf_6 : decode cX12_numberOf 6 = .ok (.aload_n 0, 1) := by decide +kernel
theorem dX12_numberOf_7 : decode cX12_numberOf 7 = .ok (.invokevirtual 296, 3) := by decide +kernel
theorem dX12_numberOf_10 : decode cX12_numberOf 10 = .ok (.ireturn, 1) := by decide +kernel
set_option maxRecDepth 100000 in
def F_X12_numberOf_b0 (v0 : Nat) (v1 : Int32) (h : Hp) : Option (Int32 × Hp) :=
  ob2 (F_X12_opens v0 v1 h) fun r2 h3 => gd (decide (kd h v0 = 11)) <| ob (F_X12_told v0 h3) fun r6 => gd (decide (kd h3 v0 = 11)) <| some (r6, h3)
set_option maxHeartbeats 4000000 in
set_option maxRecDepth 100000 in
theorem r_X12_numberOf_b0 (v0 : Nat) (v1 : Int32) (h : Hp) {x : Cx} {r : Int32} {hz : Hp} (e : F_X12_numberOf_b0 v0 v1 h = some (r, hz)) (hF : Fin9 M_X12_numberOf x (some .int) (some (.int r)) hz) : V M_X12_numberOf x 4 0 [(0, .ref v0), (1, .int v1)] [] h 0 0 := by
  unfold F_X12_numberOf_b0 at e
  refine V_aload_n (pc := 0) (i := 0) dX12_numberOf_0 rfl rfl ?_
  refine V_iload_n (pc := 1) (i := 1) dX12_numberOf_1 rfl rfl ?_
  obtain ⟨r2, h3, g1, e⟩ := ob2_some e
  obtain ⟨g4, e⟩ := gd_some e
  refine V_callV (pc := 2) (bc := 0) (bs := 0) (mc := 0) (ms := 0) (st := []) (As := [.int v1]) (a := v0) (h' := h3) (r := some (.int r2)) dX12_numberOf_2 ml_X12_340 (ci := 11) rfl (of_decide_eq_true g4) rfl rfl (Nat.le_of_ble_eq_true rfl) (d' := 3) (by decide) (c_X12_opens (l := x.2.1) v0 v1 h g1) ?_
  refine V_pop (pc := 5) dX12_numberOf_5 rfl ?_
  refine V_aload_n (pc := 6) (i := 0) dX12_numberOf_6 rfl rfl ?_
  obtain ⟨r6, g5, e⟩ := ob_some e
  obtain ⟨g7, e⟩ := gd_some e
  refine V_callV (pc := 7) (bc := 0) (bs := 0) (mc := 0) (ms := 0) (st := []) (As := []) (a := v0) (h' := h3) (r := some (.int r6)) dX12_numberOf_7 ml_X12_296 (ci := 11) rfl (of_decide_eq_true g7) rfl rfl (Nat.le_of_ble_eq_true rfl) (d' := 1) (by decide) (c_X12_told (l := x.2.1) v0 h3 g5) ?_
  cases e
  exact V_iret (pc := 10) dX12_numberOf_10 hF
def F_X12_numberOf (v0 : Nat) (v1 : Int32) (h : Hp) : Option (Int32 × Hp) := F_X12_numberOf_b0 v0 v1 h
theorem c_X12_numberOf {l : Launch} (v0 : Nat) (v1 : Int32) (h : Hp) {r : Int32} {hz : Hp} (e : F_X12_numberOf v0 v1 h = some (r, hz)) : Ct l yX12_numberOf M_X12_numberOf (some .int) 4 [.ref v0, .int v1] h 0 0 (some (.int r)) hz :=
  Ct_of rfl rfl (fun q => by cases q) (Nat.le_of_ble_eq_true rfl) (fun x _ hF => V_pick [0, 1] rfl (r_X12_numberOf_b0 v0 v1 h e hF))
theorem dX12_seats_0 : decode cX12_seats 0 = .ok (.aload_n 0, 1) := by decide +kernel
theorem dX12_seats_1 : decode cX12_seats 1 = .ok (.iconst 0, 1) := by decide +kernel
theorem dX12_seats_2 : decode cX12_seats 2 = .ok (.putfield 3, 3) := by decide +kernel
theorem dX12_seats_5 : decode cX12_seats 5 = .ok (.aload_n 0, 1) := by decide +kernel
theorem dX12_seats_6 : decode cX12_seats 6 = .ok (.iload_n 1, 1) := by decide +kernel
theorem dX12_seats_7 : decode cX12_seats 7 = .ok (.iconst 0, 1) := by decide +kernel
theorem dX12_seats_8 : decode cX12_seats 8 = .ok (.iconst 2, 1) := by decide +kernel
theorem dX12_seats_9 : decode cX12_seats 9 = .ok (.invokestatic 64, 3) := by decide +kernel
theorem dX12_seats_12 : decode cX12_seats 12 = .ok (.ifCond .ne 7, 3) := by decide +kernel
theorem dX12_seats_15 : decode cX12_seats 15 = .ok (.iconst 1, 1) := by decide +kernel
theorem dX12_seats_16 : decode cX12_seats 16 = .ok (.goto 4, 3) := by decide +kernel
theorem dX12_seats_19 : decode cX12_seats 19 = .ok (.iconst 0, 1) := by decide +kernel
theorem dX12_seats_20 : decode cX12_seats 20 = .ok (.iconst 1, 1) := by decide +kernel
theorem dX12_seats_21 : decode cX12_seats 21 = .ok (.invokevirtual 240, 3) := by decide +kernel
theorem dX12_seats_24 : decode cX12_seats 24 = .ok (.ifCond .eq 5, 3) := by decide +kernel
theorem dX12_seats_27 : decode cX12_seats 27 = .ok (.iconst 0, 1) := by decide +kernel
theorem dX12_seats_28 : decode cX12_seats 28 = .ok (.ireturn, 1) := by decide +kernel
theorem dX12_seats_29 : decode cX12_seats 29 = .ok (.aload_n 0, 1) := by decide +kernel
theorem dX12_seats_30 : decode cX12_seats 30 = .ok (.invokevirtual 352, 3) := by decide +kernel
theorem dX12_seats_33 : decode cX12_seats 33 = .ok (.aload_n 0, 1) := by decide +kernel
theorem dX12_seats_34 : decode cX12_seats 34 = .ok (.invokevirtual 355, 3) := by decide +kernel
theorem dX12_seats_37 : decode cX12_seats 37 = .ok (.iload_n 1, 1) := by decide +kernel
theorem dX12_seats_38 : decode cX12_seats 38 = .ok (.iconst 2, 1) := by decide +kernel
theorem dX12_seats_39 : decode cX12_seats 39 = .ok (.if_icmp .ne 10, 3) := by decide +kernel
theorem dX12_seats_42 : decode cX12_seats 42 = .ok (.aload_n 0, 1) := by decide +kernel
theorem dX12_seats_43 : decode cX12_seats 43 = .ok (.getfield 349, 3) := by decide +kernel
theorem dX12_seats_46 : decode cX12_seats 46 = .ok (.goto 34, 3) := by decide +kernel
theorem dX12_seats_49 : decode cX12_seats 49 = .ok (.iload_n 1, 1) := by decide +kernel
theorem dX12_seats_50 : decode cX12_seats 50 = .ok (.iconst 1, 1) := by decide +kernel
theorem dX12_seats_51 : decode cX12_seats 51 = .ok (.if_icmp .ne 10, 3) := by decide +kernel
theorem dX12_seats_54 : decode cX12_seats 54 = .ok (.aload_n 0, 1) := by decide +kernel
theorem dX12_seats_55 : decode cX12_seats 55 = .ok (.getfield 346, 3) := by decide +kernel
theorem dX12_seats_58 : decode cX12_seats 58 = .ok (.goto 22, 3) := by decide +kernel
theorem dX12_seats_61 : decode cX12_seats 61 = .ok (.aload_n 0, 1) := by decide +kernel
theorem dX12_seats_62 : decode cX12_seats 62 = .ok (.getfield 343, 3) := by decide +kernel
theorem dX12_seats_65 : decode cX12_seats 65 = .ok (.ifCond .ge 7, 3) := by decide +kernel
theorem dX12_seats_68 : decode cX12_seats 68 = .ok (.iconst (-1), 1) := by decide +kernel
theorem dX12_seats_69 : decode cX12_seats 69 = .ok (.goto 11, 3) := by decide +kernel
theorem dX12_seats_72 : decode cX12_seats 72 = .ok (.aload_n 0, 1) := by decide +kernel
theorem dX12_seats_73 : decode cX12_seats 73 = .ok (.aload_n 0, 1) := by decide +kernel
theorem dX12_seats_74 : decode cX12_seats 74 = .ok (.getfield 343, 3) := by decide +kernel
theorem dX12_seats_77 : decode cX12_seats 77 = .ok (.invokevirtual 358, 3) := by decide +kernel
theorem dX12_seats_80 : decode cX12_seats 80 = .ok (.ireturn, 1) := by decide +kernel
set_option maxRecDepth 100000 in
def F_X12_seats_b80 (t0 : Int32) (h : Hp) : Option (Int32 × Hp) :=
  some (t0, h)
set_option maxHeartbeats 4000000 in
set_option maxRecDepth 100000 in
theorem r_X12_seats_b80 (t0 : Int32) (h : Hp) {x : Cx} {r : Int32} {hz : Hp} (e : F_X12_seats_b80 t0 h = some (r, hz)) (hF : Fin9 M_X12_seats x (some .int) (some (.int r)) hz) : V M_X12_seats x 7 80 [] [.int t0] h 0 0 := by
  unfold F_X12_seats_b80 at e
  cases e
  exact V_iret (pc := 80) dX12_seats_80 hF
set_option maxRecDepth 100000 in
def F_X12_seats_b20 (v0 : Nat) (v1 : Int32) (t0 : Nat) (t1 : Int32) (h : Hp) : Option (Int32 × Hp) :=
  ob2 (F_X12_throwsIf t0 t1 (1 : Int32) h) fun r5 h6 => gd (decide (kd h t0 = 11)) <| (if r5 = 0 then ob2 (F_X12_laysAll v0 h6) fun _ h10 => gd (decide (kd h6 v0 = 11)) <| ob2 (F_X12_findsSeats v0 h10) fun _ h14 => gd (decide (kd h10 v0 = 11)) <| (if v1 = (2 : Int32) then gd (decide (kd h14 v0 = 11)) <| F_X12_seats_b80 (zI h14 v0 25) h14 else (if v1 = (1 : Int32) then gd (decide (kd h14 v0 = 11)) <| F_X12_seats_b80 (zI h14 v0 24) h14 else gd (decide (kd h14 v0 = 11)) <| (if 0 ≤ (zI h14 v0 23) then ob2 (F_X12_numberOf v0 (zI h14 v0 23) h14) fun r18 h19 => F_X12_seats_b80 r18 h19 else F_X12_seats_b80 (-1 : Int32) h14))) else some ((0 : Int32), h6))
set_option maxHeartbeats 4000000 in
set_option maxRecDepth 100000 in
theorem r_X12_seats_b20 (v0 : Nat) (v1 : Int32) (t0 : Nat) (t1 : Int32) (h : Hp) {x : Cx} {r : Int32} {hz : Hp} (e : F_X12_seats_b20 v0 v1 t0 t1 h = some (r, hz)) (hF : Fin9 M_X12_seats x (some .int) (some (.int r)) hz) : V M_X12_seats x 7 20 [(0, .ref v0), (1, .int v1)] [.int t1, .ref t0] h 0 0 := by
  unfold F_X12_seats_b20 at e
  refine V_iconst (pc := 20) (v := (1 : Int32)) dX12_seats_20 (by decide) ?_
  obtain ⟨r5, h6, g4, e⟩ := ob2_some e
  obtain ⟨g7, e⟩ := gd_some e
  refine V_callV (pc := 21) (bc := 0) (bs := 0) (mc := 0) (ms := 0) (st := []) (As := [.int t1, .int (1 : Int32)]) (a := t0) (h' := h6) (r := some (.int r5)) dX12_seats_21 ml_X12_240 (ci := 11) rfl (of_decide_eq_true g7) rfl rfl (Nat.le_of_ble_eq_true rfl) (d' := 0) (by decide) (c_X12_throwsIf (l := x.2.1) t0 t1 (1 : Int32) h g4) ?_
  refine V_if_eq (pc := 24) (tgt := 29) dX12_seats_24 (by decide) (fun c25 => ?_) (fun c25 => ?_)
  · rw [if_pos c25] at e
    refine V_pick [0, 1] rfl ?_
    refine V_aload_n (pc := 29) (i := 0) dX12_seats_29 rfl rfl ?_
    obtain ⟨r9, h10, g8, e⟩ := ob2_some e
    obtain ⟨g11, e⟩ := gd_some e
    refine V_callV (pc := 30) (bc := 0) (bs := 0) (mc := 0) (ms := 0) (st := []) (As := []) (a := v0) (h' := h10) (r := none) dX12_seats_30 ml_X12_352 (ci := 11) rfl (of_decide_eq_true g11) rfl rfl (Nat.le_of_ble_eq_true rfl) (d' := 6) (by decide) (c_X12_laysAll (l := x.2.1) v0 h6 g8) ?_
    refine V_aload_n (pc := 33) (i := 0) dX12_seats_33 rfl rfl ?_
    obtain ⟨r13, h14, g12, e⟩ := ob2_some e
    obtain ⟨g15, e⟩ := gd_some e
    refine V_callV (pc := 34) (bc := 0) (bs := 0) (mc := 0) (ms := 0) (st := []) (As := []) (a := v0) (h' := h14) (r := none) dX12_seats_34 ml_X12_355 (ci := 11) rfl (of_decide_eq_true g15) rfl rfl (Nat.le_of_ble_eq_true rfl) (d' := 6) (by decide) (c_X12_findsSeats (l := x.2.1) v0 h10 g12) ?_
    refine V_iload_n (pc := 37) (i := 1) dX12_seats_37 rfl rfl ?_
    refine V_iconst (pc := 38) (v := (2 : Int32)) dX12_seats_38 (by decide) ?_
    refine V_icmp_ne (pc := 39) (tgt := 49) dX12_seats_39 (by decide) (fun c24 => ?_) (fun c24 => ?_)
    · rw [if_neg c24] at e
      refine V_pick [0, 1] rfl ?_
      refine V_iload_n (pc := 49) (i := 1) dX12_seats_49 rfl rfl ?_
      refine V_iconst (pc := 50) (v := (1 : Int32)) dX12_seats_50 (by decide) ?_
      refine V_icmp_ne (pc := 51) (tgt := 61) dX12_seats_51 (by decide) (fun c22 => ?_) (fun c22 => ?_)
      · rw [if_neg c22] at e
        refine V_pick [0] rfl ?_
        refine V_aload_n (pc := 61) (i := 0) dX12_seats_61 rfl rfl ?_
        obtain ⟨g16, e⟩ := gd_some e
        refine V_getI (pc := 62) (ci := 11) (k := 23) dX12_seats_62 fl_X12_343 rfl (of_decide_eq_true g16) ?_
        refine V_if_ge (pc := 65) (tgt := 72) dX12_seats_65 (by decide) (fun c20 => ?_) (fun c20 => ?_)
        · rw [if_pos c20] at e
          refine V_pick [0] rfl ?_
          refine V_aload_n (pc := 72) (i := 0) dX12_seats_72 rfl rfl ?_
          refine V_aload_n (pc := 73) (i := 0) dX12_seats_73 rfl rfl ?_
          refine V_getI (pc := 74) (ci := 11) (k := 23) dX12_seats_74 fl_X12_343 rfl (of_decide_eq_true g16) ?_
          obtain ⟨r18, h19, g17, e⟩ := ob2_some e
          refine V_callV (pc := 77) (bc := 0) (bs := 0) (mc := 0) (ms := 0) (st := []) (As := [.int (zI h14 v0 23)]) (a := v0) (h' := h19) (r := some (.int r18)) dX12_seats_77 ml_X12_358 (ci := 11) rfl (of_decide_eq_true g16) rfl rfl (Nat.le_of_ble_eq_true rfl) (d' := 4) (by decide) (c_X12_numberOf (l := x.2.1) v0 (zI h14 v0 23) h14 g17) ?_
          exact V_pick [] rfl (r_X12_seats_b80 r18 h19 e hF)
        · rw [if_neg c20] at e
          refine V_pick [] rfl ?_
          refine V_iconst (pc := 68) (v := (-1 : Int32)) dX12_seats_68 (by decide) ?_
          refine V_goto (pc := 69) (tgt := 80) dX12_seats_69 (by decide) ?_
          exact V_pick [] rfl (r_X12_seats_b80 (-1 : Int32) h14 e hF)
      · rw [if_pos c22] at e
        refine V_pick [0] rfl ?_
        refine V_aload_n (pc := 54) (i := 0) dX12_seats_54 rfl rfl ?_
        obtain ⟨g21, e⟩ := gd_some e
        refine V_getI (pc := 55) (ci := 11) (k := 24) dX12_seats_55 fl_X12_346 rfl (of_decide_eq_true g21) ?_
        refine V_goto (pc := 58) (tgt := 80) dX12_seats_58 (by decide) ?_
        exact V_pick [] rfl (r_X12_seats_b80 (zI h14 v0 24) h14 e hF)
    · rw [if_pos c24] at e
      refine V_pick [0] rfl ?_
      refine V_aload_n (pc := 42) (i := 0) dX12_seats_42 rfl rfl ?_
      obtain ⟨g23, e⟩ := gd_some e
      refine V_getI (pc := 43) (ci := 11) (k := 25) dX12_seats_43 fl_X12_349 rfl (of_decide_eq_true g23) ?_
      refine V_goto (pc := 46) (tgt := 80) dX12_seats_46 (by decide) ?_
      exact V_pick [] rfl (r_X12_seats_b80 (zI h14 v0 25) h14 e hF)
  · rw [if_neg c25] at e
    refine V_pick [] rfl ?_
    refine V_iconst (pc := 27) (v := (0 : Int32)) dX12_seats_27 (by decide) ?_
    cases e
    exact V_iret (pc := 28) dX12_seats_28 hF
set_option maxRecDepth 100000 in
def F_X12_seats_b0 (v0 : Nat) (v1 : Int32) (h : Hp) : Option (Int32 × Hp) :=
  gd (decide (kd h v0 = 11)) <| ob (F_X12_in v1 (0 : Int32) (2 : Int32) (setI h v0 0 (0 : Int32))) fun r3 => (if r3 = 0 then F_X12_seats_b20 v0 v1 v0 (1 : Int32) (setI h v0 0 (0 : Int32)) else F_X12_seats_b20 v0 v1 v0 (0 : Int32) (setI h v0 0 (0 : Int32)))
set_option maxHeartbeats 4000000 in
set_option maxRecDepth 100000 in
theorem r_X12_seats_b0 (v0 : Nat) (v1 : Int32) (h : Hp) {x : Cx} {r : Int32} {hz : Hp} (e : F_X12_seats_b0 v0 v1 h = some (r, hz)) (hF : Fin9 M_X12_seats x (some .int) (some (.int r)) hz) : V M_X12_seats x 7 0 [(0, .ref v0), (1, .int v1)] [] h 0 0 := by
  unfold F_X12_seats_b0 at e
  refine V_aload_n (pc := 0) (i := 0) dX12_seats_0 rfl rfl ?_
  refine V_iconst (pc := 1) (v := (0 : Int32)) dX12_seats_1 (by decide) ?_
  obtain ⟨g1, e⟩ := gd_some e
  refine V_putI (pc := 2) (ci := 11) (k := 0) dX12_seats_2 fp_X12_3 rfl (of_decide_eq_true g1) ?_
  refine V_aload_n (pc := 5) (i := 0) dX12_seats_5 rfl rfl ?_
  refine V_iload_n (pc := 6) (i := 1) dX12_seats_6 rfl rfl ?_
  refine V_iconst (pc := 7) (v := (0 : Int32)) dX12_seats_7 (by decide) ?_
  refine V_iconst (pc := 8) (v := (2 : Int32)) dX12_seats_8 (by decide) ?_
  obtain ⟨r3, g2, e⟩ := ob_some e
  refine V_callS (pc := 9) (bc := 0) (bs := 0) (mc := 0) (ms := 0) (st := [.ref v0]) (As := [.int v1, .int (0 : Int32), .int (2 : Int32)]) (h' := (setI h v0 0 (0 : Int32))) (r := some (.int r3)) dX12_seats_9 ml_X12_64 rfl rfl (Nat.le_of_ble_eq_true rfl) (d' := 0) (by decide) (c_X12_in (l := x.2.1) v1 (0 : Int32) (2 : Int32) (setI h v0 0 (0 : Int32)) g2) ?_
  refine V_if_ne (pc := 12) (tgt := 19) dX12_seats_12 (by decide) (fun c26 => ?_) (fun c26 => ?_)
  · rw [if_neg c26] at e
    refine V_pick [0, 1] rfl ?_
    refine V_iconst (pc := 19) (v := (0 : Int32)) dX12_seats_19 (by decide) ?_
    exact V_pick [0, 1] rfl (r_X12_seats_b20 v0 v1 v0 (0 : Int32) (setI h v0 0 (0 : Int32)) e hF)
  · rw [if_pos c26] at e
    refine V_pick [0, 1] rfl ?_
    refine V_iconst (pc := 15) (v := (1 : Int32)) dX12_seats_15 (by decide) ?_
    refine V_goto (pc := 16) (tgt := 20) dX12_seats_16 (by decide) ?_
    exact V_pick [0, 1] rfl (r_X12_seats_b20 v0 v1 v0 (1 : Int32) (setI h v0 0 (0 : Int32)) e hF)
def F_X12_seats (v0 : Nat) (v1 : Int32) (h : Hp) : Option (Int32 × Hp) := F_X12_seats_b0 v0 v1 h
theorem c_X12_seats {l : Launch} (v0 : Nat) (v1 : Int32) (h : Hp) {r : Int32} {hz : Hp} (e : F_X12_seats v0 v1 h = some (r, hz)) : Ct l yX12_seats M_X12_seats (some .int) 7 [.ref v0, .int v1] h 0 0 (some (.int r)) hz :=
  Ct_of rfl rfl (fun q => by cases q) (Nat.le_of_ble_eq_true rfl) (fun x _ hF => V_pick [0, 1] rfl (r_X12_seats_b0 v0 v1 h e hF))
theorem dX12_bells_0 : decode cX12_bells 0 = .ok (.aload_n 0, 1) := by decide +kernel
theorem dX12_bells_1 : decode cX12_bells 1 = .ok (.iconst 0, 1) := by decide +kernel
theorem dX12_bells_2 : decode cX12_bells 2 = .ok (.putfield 3, 3) := by decide +kernel
theorem dX12_bells_5 : decode cX12_bells 5 = .ok (.iload_n 1, 1) := by decide +kernel
theorem dX12_bells_6 : decode cX12_bells 6 = .ok (.iconst (-1), 1) := by decide +kernel
theorem dX12_bells_7 : decode cX12_bells 7 = .ok (.if_icmp .ne 7, 3) := by decide +kernel
theorem dX12_bells_10 : decode cX12_bells 10 = .ok (.iconst (-1), 1) := by decide +kernel
theorem dX12_bells_11 : decode cX12_bells 11 = .ok (.goto 8, 3) := by decide +kernel
theorem dX12_bells_14 : decode cX12_bells 14 = .ok (.aload_n 0, 1) := by decide +kernel
theorem dX12_bells_15 : decode cX12_bells 15 = .ok (.iload_n 1, 1) := by decide +kernel
theorem dX12_bells_16 : decode cX12_bells 16 = .ok (.invokevirtual 364, 3) := by decide +kernel
theorem dX12_bells_19 : decode cX12_bells 19 = .ok (.istore_n 3, 1) := by decide +kernel
theorem dX12_bells_20 : decode cX12_bells 20 = .ok (.aload_n 0, 1) := by decide +kernel
theorem dX12_bells_21 : decode cX12_bells 21 = .ok (.iload_n 1, 1) := by decide +kernel
theorem dX12_bells_22 : decode cX12_bells 22 = .ok (.iconst (-1), 1) := by decide +kernel
theorem dX12_bells_23 : decode cX12_bells 23 = .ok (.if_icmp .eq 7, 3) := by decide +kernel
theorem dX12_bells_26 : decode cX12_bells 26 = .ok (.iload_n 3, 1) := by decide +kernel
theorem dX12_bells_27 : decode cX12_bells 27 = .ok (.ifCond .lt 8, 3) := by decide +kernel
theorem dX12_bells_30 : decode cX12_bells 30 = .ok (.iload_n 2, 1) := by decide +kernel
theorem dX12_bells_31 : decode cX12_bells 31 = .ok (.iconst (-1), 1) := by decide +kernel
theorem dX12_bells_32 : decode cX12_bells 32 = .ok (.if_icmp .ge 7, 3) := by decide +kernel
theorem dX12_bells_35 : decode cX12_bells 35 = .ok (.iconst 1, 1) := by decide +kernel
theorem dX12_bells_36 : decode cX12_bells 36 = .ok (.goto 4, 3) := by decide +kernel
theorem dX12_bells_39 : decode cX12_bells 39 = .ok (.iconst 0, 1) := by decide +kernel
theorem dX12_bells_40 : decode cX12_bells 40 = .ok (.iconst 1, 1) := by decide +kernel
theorem dX12_bells_41 : decode cX12_bells 41 = .ok (.invokevirtual 240, 3) := by decide +kernel
theorem dX12_bells_44 : decode cX12_bells 44 = .ok (.ifCond .eq 5, 3) := by decide +kernel
theorem dX12_bells_47 : decode cX12_bells 47 = .ok (.iconst 0, 1) := by decide +kernel
theorem dX12_bells_48 : decode cX12_bells 48 = .ok (.ireturn, 1) := by decide +kernel
theorem dX12_bells_49 : decode cX12_bells 49 = .ok (.aload_n 0, 1) := by decide +kernel
theorem dX12_bells_50 : decode cX12_bells 50 = .ok (.invokevirtual 352, 3) := by decide +kernel
theorem dX12_bells_53 : decode cX12_bells 53 = .ok (.iload_n 1, 1) := by decide +kernel
theorem dX12_bells_54 : decode cX12_bells 54 = .ok (.iconst (-1), 1) := by decide +kernel
theorem dX12_bells_55 : decode cX12_bells 55 = .ok (.if_icmp .ne 12, 3) := by decide +kernel
theorem dX12_bells_58 : decode cX12_bells 58 = .ok (.aload_n 0, 1) := by decide +kernel
theorem dX12_bells_59 : decode cX12_bells 59 = .ok (.invokevirtual 355, 3) := by decide +kernel
theorem dX12_bells_62 : decode cX12_bells 62 = .ok (.aload_n 0, 1) := by decide +kernel
theorem dX12_bells_63 : decode cX12_bells 63 = .ok (.getfield 343, 3) := by decide +kernel
theorem dX12_bells_66 : decode cX12_bells 66 = .ok (.istore_n 3, 1) := by decide +kernel
theorem dX12_bells_67 : decode cX12_bells 67 = .ok (.iload_n 3, 1) := by decide +kernel
theorem dX12_bells_68 : decode cX12_bells 68 = .ok (.ifCond .ge 5, 3) := by decide +kernel
theorem dX12_bells_71 : decode cX12_bells 71 = .ok (.iconst (-1), 1) := by decide +kernel
theorem dX12_bells_72 : decode cX12_bells 72 = .ok (.ireturn, 1) := by decide +kernel
theorem dX12_bells_73 : decode cX12_bells 73 = .ok (.aload_n 0, 1) := by decide +kernel
theorem dX12_bells_74 : decode cX12_bells 74 = .ok (.iload_n 3, 1) := by decide +kernel
theorem dX12_bells_75 : decode cX12_bells 75 = .ok (.invokevirtual 367, 3) := by decide +kernel
theorem dX12_bells_78 : decode cX12_bells 78 = .ok (.aload_n 0, 1) := by decide +kernel
theorem dX12_bells_79 : decode cX12_bells 79 = .ok (.invokevirtual 371, 3) := by decide +kernel
theorem dX12_bells_82 : decode cX12_bells 82 = .ok (.istore 4, 2) := by decide +kernel
theorem dX12_bells_84 : decode cX12_bells 84 = .ok (.aload_n 0, 1) := by decide +kernel
theorem dX12_bells_85 : decode cX12_bells 85 = .ok (.iload 4, 2) := by decide +kernel
theorem dX12_bells_87 : decode cX12_bells 87 = .ok (.iload_n 3, 1) := by decide +kernel
theorem dX12_bells_88 : decode cX12_bells 88 = .ok (.invokevirtual 374, 3) := by decide +kernel
theorem dX12_bells_91 : decode cX12_bells 91 = .ok (.istore 5, 2) := by decide +kernel
theorem dX12_bells_93 : decode cX12_bells 93 = .ok (.iload 5, 2) := by decide +kernel
theorem dX12_bells_95 : decode cX12_bells 95 = .ok (.ifCond .lt 14, 3) := by decide +kernel
theorem dX12_bells_98 : decode cX12_bells 98 = .ok (.iload_n 2, 1) := by decide +kernel
theorem dX12_bells_99 : decode cX12_bells 99 = .ok (.iconst (-1), 1) := by decide +kernel
theorem dX12_bells_100 : decode cX12_bells 100 = .ok (.if_icmp .eq 9, 3) := by decide +kernel
theorem dX12_bells_103 : decode cX12_bells 103 = .ok (.iload_n 2, 1) := by decide +kernel
theorem dX12_bells_104 : decode cX12_bells 104 = .ok (.iload 5, 2) := by decide +kernel
theorem dX12_bells_106 : decode cX12_bells 106 = .ok (.if_icmp .lt 15, 3) := by decide +kernel
theorem dX12_bells_109 : decode cX12_bells 109 = .ok (.iload_n 2, 1) := by decide +kernel
theorem dX12_bells_110 : decode cX12_bells 110 = .ok (.iconst (-1), 1) := by decide +kernel
theorem dX12_bells_111 : decode cX12_bells 111 = .ok (.if_icmp .ne 8, 3) := by decide +kernel
theorem dX12_bells_114 : decode cX12_bells 114 = .ok (.iload 5, 2) := by decide +kernel
theorem dX12_bells_116 : decode cX12_bells 116 = .ok (.goto 4, 3) := by decide +kernel
theorem dX12_bells_119 : decode cX12_bells 119 = .ok (.iconst (-1), 1) := by decide +kernel
theorem dX12_bells_120 : decode cX12_bells 120 = .ok (.ireturn, 1) := by decide +kernel
theorem dX12_bells_121 : decode cX12_bells 121 = .ok (.iconst (-1), 1) := by decide +kernel
theorem dX12_bells_122 : decode cX12_bells 122 = .ok (.istore 6, 2) := by decide +kernel
theorem dX12_bells_124 : decode cX12_bells 124 = .ok (.iconst 0, 1) := by decide +kernel
theorem dX12_bells_125 : decode cX12_bells 125 = .ok (.istore 7, 2) := by decide +kernel
theorem dX12_bells_127 : decode cX12_bells 127 = .ok (.iload 7, 2) := by decide +kernel
theorem dX12_bells_129 : decode cX12_bells 129 = .ok (.iload_n 2, 1) := by decide +kernel
theorem dX12_bells_130 : decode cX12_bells 130 = .ok (.if_icmp .gt 42, 3) := by decide +kernel
theorem dX12_bells_133 : decode cX12_bells 133 = .ok (.aload_n 0, 1) := by decide +kernel
theorem dX12_bells_134 : decode cX12_bells 134 = .ok (.iload 4, 2) := by decide +kernel
theorem dX12_bells_136 : decode cX12_bells 136 = .ok (.iload 5, 2) := by decide +kernel
theorem dX12_bells_138 : decode cX12_bells 138 = .ok (.iload 7, 2) := by decide +kernel
theorem dX12_bells_140 : decode cX12_bells 140 = .ok (.isub, 1) := by decide +kernel
theorem dX12_bells_141 : decode cX12_bells 141 = .ok (.iconst 1, 1) := by decide +kernel
theorem dX12_bells_142 : decode cX12_bells 142 = .ok (.isub, 1) := by decide +kernel
theorem dX12_bells_143 : decode cX12_bells 143 = .ok (.invokevirtual 377, 3) := by decide +kernel
theorem dX12_bells_146 : decode cX12_bells 146 = .ok (.istore 6, 2) := by decide +kernel
theorem dX12_bells_148 : decode cX12_bells 148 = .ok (.aload_n 0, 1) := by decide +kernel
theorem dX12_bells_149 : decode cX12_bells 149 = .ok (.iload 4, 2) := by decide +kernel
theorem dX12_bells_151 : decode cX12_bells 151 = .ok (.iload 6, 2) := by decide +kernel
theorem dX12_bells_153 : decode cX12_bells 153 = .ok (.bipush 8, 2) := by decide +kernel
theorem dX12_bells_155 : decode cX12_bells 155 = .ok (.idiv, 1) := by decide +kernel
theorem dX12_bells_156 : decode cX12_bells 156 = .ok (.iload 6, 2) := by decide +kernel
theorem dX12_bells_158 : decode cX12_bells 158 = .ok (.bipush 8, 2) := by decide +kernel
theorem dX12_bells_160 : decode cX12_bells 160 = .ok (.irem, 1) := by decide +kernel
theorem dX12_bells_161 : decode cX12_bells 161 = .ok (.invokevirtual 361, 3) := by decide +kernel
theorem dX12_bells_164 : decode cX12_bells 164 = .ok (.istore 4, 2) := by decide +kernel
theorem dX12_bells_166 : decode cX12_bells 166 = .ok (.iinc 7 1, 3) := by decide +kernel
theorem dX12_bells_169 : decode cX12_bells 169 = .ok (.goto (-42), 3) := by decide +kernel
theorem dX12_bells_172 : decode cX12_bells 172 = .ok (.iload 6, 2) := by decide +kernel
theorem dX12_bells_174 : decode cX12_bells 174 = .ok (.ireturn, 1) := by decide +kernel
set_option maxRecDepth 100000 in
def F_X12_bells_b120 (t0 : Int32) (h : Hp) : Option (Int32 × Hp) :=
  some (t0, h)
set_option maxHeartbeats 4000000 in
set_option maxRecDepth 100000 in
theorem r_X12_bells_b120 (t0 : Int32) (h : Hp) {x : Cx} {r : Int32} {hz : Hp} (e : F_X12_bells_b120 t0 h = some (r, hz)) (hF : Fin9 M_X12_bells x (some .int) (some (.int r)) hz) : V M_X12_bells x 7 120 [] [.int t0] h 0 0 := by
  unfold F_X12_bells_b120 at e
  cases e
  exact V_iret (pc := 120) dX12_bells_120 hF
set_option maxRecDepth 100000 in
def F_X12_bells_b109 (v2 : Int32) (v5 : Int32) (h : Hp) : Option (Int32 × Hp) :=
  (if v2 = (-1 : Int32) then F_X12_bells_b120 v5 h else F_X12_bells_b120 (-1 : Int32) h)
set_option maxHeartbeats 4000000 in
set_option maxRecDepth 100000 in
theorem r_X12_bells_b109 (v2 : Int32) (v5 : Int32) (h : Hp) {x : Cx} {r : Int32} {hz : Hp} (e : F_X12_bells_b109 v2 v5 h = some (r, hz)) (hF : Fin9 M_X12_bells x (some .int) (some (.int r)) hz) : V M_X12_bells x 7 109 [(2, .int v2), (5, .int v5)] [] h 0 0 := by
  unfold F_X12_bells_b109 at e
  refine V_iload_n (pc := 109) (i := 2) dX12_bells_109 rfl rfl ?_
  refine V_iconst (pc := 110) (v := (-1 : Int32)) dX12_bells_110 (by decide) ?_
  refine V_icmp_ne (pc := 111) (tgt := 119) dX12_bells_111 (by decide) (fun c24 => ?_) (fun c24 => ?_)
  · rw [if_neg c24] at e
    refine V_pick [] rfl ?_
    refine V_iconst (pc := 119) (v := (-1 : Int32)) dX12_bells_119 (by decide) ?_
    exact V_pick [] rfl (r_X12_bells_b120 (-1 : Int32) h e hF)
  · rw [if_pos c24] at e
    refine V_pick [1] rfl ?_
    refine V_iload (pc := 114) (i := 5) dX12_bells_114 rfl ?_
    refine V_goto (pc := 116) (tgt := 120) dX12_bells_116 (by decide) ?_
    exact V_pick [] rfl (r_X12_bells_b120 v5 h e hF)
set_option maxRecDepth 100000 in
def F_X12_bells_l127 (v0 : Nat) (v2 : Int32) (v4 : Int32) (v5 : Int32) (v6 : Int32) (v7 : Int32) (h : Hp) : Option ((Int32 × Int32 × Int32) ⊕ Int32) :=
  (if v2 < v7 then some (.inr v6) else ob (F_X12_firstBell v0 v4 ((v5 - v7) - (1 : Int32)) h) fun r26 => gd (decide (kd h v0 = 11)) <| ob (F_X12_sent v0 v4 (r26 / (8 : Int32)) (r26 - r26 / (8 : Int32) * (8 : Int32)) h) fun r29 => some (.inl (r29, r26, v7 + (1 : Int32))))
set_option maxHeartbeats 4000000 in
set_option maxRecDepth 100000 in
theorem r_X12_bells_l127 (v0 : Nat) (v2 : Int32) (v4 : Int32) (v5 : Int32) (v6 : Int32) (v7 : Int32) (h : Hp) {x : Cx} {o : ((Int32 × Int32 × Int32) ⊕ Int32)} (e : F_X12_bells_l127 v0 v2 v4 v5 v6 v7 h = some o) (kI : ∀ z, o = .inl z → V M_X12_bells x 7 127 [(0, .ref v0), (2, .int v2), (4, .int z.1), (5, .int v5), (6, .int z.2.1), (7, .int z.2.2)] [] h 0 0) (kE172 : ∀ z : Int32, o = .inr z → V M_X12_bells x 7 172 [(6, .int z)] [] h 0 0) : V M_X12_bells x 7 127 [(0, .ref v0), (2, .int v2), (4, .int v4), (5, .int v5), (6, .int v6), (7, .int v7)] [] h 0 0 := by
  unfold F_X12_bells_l127 at e
  refine V_iload (pc := 127) (i := 7) dX12_bells_127 rfl ?_
  refine V_iload_n (pc := 129) (i := 2) dX12_bells_129 rfl rfl ?_
  refine V_icmp_gt (pc := 130) (tgt := 172) dX12_bells_130 (by decide) (fun c30 => ?_) (fun c30 => ?_)
  · rw [if_pos c30] at e
    cases e
    exact V_pick [4] rfl (kE172 _ rfl)
  · rw [if_neg c30] at e
    refine V_pick [0, 1, 2, 3, 5] rfl ?_
    refine V_aload_n (pc := 133) (i := 0) dX12_bells_133 rfl rfl ?_
    refine V_iload (pc := 134) (i := 4) dX12_bells_134 rfl ?_
    refine V_iload (pc := 136) (i := 5) dX12_bells_136 rfl ?_
    refine V_iload (pc := 138) (i := 7) dX12_bells_138 rfl ?_
    refine V_isub (pc := 140) dX12_bells_140 ?_
    refine V_iconst (pc := 141) (v := (1 : Int32)) dX12_bells_141 (by decide) ?_
    refine V_isub (pc := 142) dX12_bells_142 ?_
    obtain ⟨r26, g25, e⟩ := ob_some e
    obtain ⟨g27, e⟩ := gd_some e
    refine V_callV (pc := 143) (bc := 0) (bs := 0) (mc := 0) (ms := 0) (st := []) (As := [.int v4, .int ((v5 - v7) - (1 : Int32))]) (a := v0) (h' := h) (r := some (.int r26)) dX12_bells_143 ml_X12_377 (ci := 11) rfl (of_decide_eq_true g27) rfl rfl (Nat.le_of_ble_eq_true rfl) (d' := 2) (by decide) (c_X12_firstBell (l := x.2.1) v0 v4 ((v5 - v7) - (1 : Int32)) h g25) ?_
    refine V_istore (pc := 146) (i := 6) (lv' := [(6, .int r26), (0, .ref v0), (2, .int v2), (4, .int v4), (5, .int v5), (7, .int v7)]) dX12_bells_146 (by decide) rfl ?_
    refine V_aload_n (pc := 148) (i := 0) dX12_bells_148 rfl rfl ?_
    refine V_iload (pc := 149) (i := 4) dX12_bells_149 rfl ?_
    refine V_iload (pc := 151) (i := 6) dX12_bells_151 rfl ?_
    refine V_bipush (pc := 153) (v := (8 : Int32)) dX12_bells_153 (by decide) ?_
    refine V_idiv (pc := 155) dX12_bells_155 (by decide) ?_
    refine V_iload (pc := 156) (i := 6) dX12_bells_156 rfl ?_
    refine V_bipush (pc := 158) (v := (8 : Int32)) dX12_bells_158 (by decide) ?_
    refine V_irem (pc := 160) dX12_bells_160 (by decide) ?_
    obtain ⟨r29, g28, e⟩ := ob_some e
    refine V_callV (pc := 161) (bc := 0) (bs := 0) (mc := 0) (ms := 0) (st := []) (As := [.int v4, .int (r26 / (8 : Int32)), .int (r26 - r26 / (8 : Int32) * (8 : Int32))]) (a := v0) (h' := h) (r := some (.int r29)) dX12_bells_161 ml_X12_361 (ci := 11) rfl (of_decide_eq_true g27) rfl rfl (Nat.le_of_ble_eq_true rfl) (d' := 1) (by decide) (c_X12_sent (l := x.2.1) v0 v4 (r26 / (8 : Int32)) (r26 - r26 / (8 : Int32) * (8 : Int32)) h g28) ?_
    refine V_istore (pc := 164) (i := 4) (lv' := [(4, .int r29), (6, .int r26), (0, .ref v0), (2, .int v2), (5, .int v5), (7, .int v7)]) dX12_bells_164 (by decide) rfl ?_
    refine V_iinc (pc := 166) (i := 7) (u := v7 + (1 : Int32)) (lv' := [(7, .int (v7 + (1 : Int32))), (4, .int r29), (6, .int r26), (0, .ref v0), (2, .int v2), (5, .int v5)]) dX12_bells_166 rfl rfl (by decide) rfl ?_
    refine V_goto (pc := 169) (tgt := 127) dX12_bells_169 (by decide) ?_
    cases e
    exact V_pick [3, 4, 1, 5, 2, 0] rfl (kI _ rfl)
set_option maxRecDepth 100000 in
def F_X12_bells_b67 (v0 : Nat) (v2 : Int32) (v3 : Int32) (h : Hp) : Option (Int32 × Hp) :=
  (if 0 ≤ v3 then ob2 (F_X12_fars v0 v3 h) fun _ h15 => gd (decide (kd h v0 = 11)) <| ob2 (F_X12_now v0 h15) fun r18 h19 => gd (decide (kd h15 v0 = 11)) <| ob (F_X12_bellsFrom v0 r18 v3 h19) fun r22 => gd (decide (kd h19 v0 = 11)) <| (if r22 < 0 then F_X12_bells_b109 v2 r22 h19 else (if v2 = (-1 : Int32) then F_X12_bells_b109 v2 r22 h19 else (if v2 < r22 then ob (iter (fun z : Int32 × Int32 × Int32 => F_X12_bells_l127 v0 v2 z.1 r22 z.2.1 z.2.2 h19) FU (r18, (-1 : Int32), (0 : Int32))) (fun w31 => some (w31, h19)) else F_X12_bells_b109 v2 r22 h19))) else some ((-1 : Int32), h))
set_option maxHeartbeats 4000000 in
set_option maxRecDepth 100000 in
theorem r_X12_bells_b67 (v0 : Nat) (v2 : Int32) (v3 : Int32) (h : Hp) {x : Cx} {r : Int32} {hz : Hp} (e : F_X12_bells_b67 v0 v2 v3 h = some (r, hz)) (hF : Fin9 M_X12_bells x (some .int) (some (.int r)) hz) : V M_X12_bells x 7 67 [(0, .ref v0), (2, .int v2), (3, .int v3)] [] h 0 0 := by
  unfold F_X12_bells_b67 at e
  refine V_iload_n (pc := 67) (i := 3) dX12_bells_67 rfl rfl ?_
  refine V_if_ge (pc := 68) (tgt := 73) dX12_bells_68 (by decide) (fun c37 => ?_) (fun c37 => ?_)
  · rw [if_pos c37] at e
    refine V_pick [0, 1, 2] rfl ?_
    refine V_aload_n (pc := 73) (i := 0) dX12_bells_73 rfl rfl ?_
    refine V_iload_n (pc := 74) (i := 3) dX12_bells_74 rfl rfl ?_
    obtain ⟨r14, h15, g13, e⟩ := ob2_some e
    obtain ⟨g16, e⟩ := gd_some e
    refine V_callV (pc := 75) (bc := 0) (bs := 0) (mc := 0) (ms := 0) (st := []) (As := [.int v3]) (a := v0) (h' := h15) (r := none) dX12_bells_75 ml_X12_367 (ci := 11) rfl (of_decide_eq_true g16) rfl rfl (Nat.le_of_ble_eq_true rfl) (d' := 2) (by decide) (c_X12_fars (l := x.2.1) v0 v3 h g13) ?_
    refine V_aload_n (pc := 78) (i := 0) dX12_bells_78 rfl rfl ?_
    obtain ⟨r18, h19, g17, e⟩ := ob2_some e
    obtain ⟨g20, e⟩ := gd_some e
    refine V_callV (pc := 79) (bc := 0) (bs := 0) (mc := 0) (ms := 0) (st := []) (As := []) (a := v0) (h' := h19) (r := some (.int r18)) dX12_bells_79 ml_X12_371 (ci := 11) rfl (of_decide_eq_true g20) rfl rfl (Nat.le_of_ble_eq_true rfl) (d' := 2) (by decide) (c_X12_now (l := x.2.1) v0 h15 g17) ?_
    refine V_istore (pc := 82) (i := 4) (lv' := [(4, .int r18), (0, .ref v0), (2, .int v2), (3, .int v3)]) dX12_bells_82 (by decide) rfl ?_
    refine V_aload_n (pc := 84) (i := 0) dX12_bells_84 rfl rfl ?_
    refine V_iload (pc := 85) (i := 4) dX12_bells_85 rfl ?_
    refine V_iload_n (pc := 87) (i := 3) dX12_bells_87 rfl rfl ?_
    obtain ⟨r22, g21, e⟩ := ob_some e
    obtain ⟨g23, e⟩ := gd_some e
    refine V_callV (pc := 88) (bc := 0) (bs := 0) (mc := 0) (ms := 0) (st := []) (As := [.int r18, .int v3]) (a := v0) (h' := h19) (r := some (.int r22)) dX12_bells_88 ml_X12_374 (ci := 11) rfl (of_decide_eq_true g23) rfl rfl (Nat.le_of_ble_eq_true rfl) (d' := 2) (by decide) (c_X12_bellsFrom (l := x.2.1) v0 r18 v3 h19 g21) ?_
    refine V_istore (pc := 91) (i := 5) (lv' := [(5, .int r22), (4, .int r18), (0, .ref v0), (2, .int v2), (3, .int v3)]) dX12_bells_91 (by decide) rfl ?_
    refine V_iload (pc := 93) (i := 5) dX12_bells_93 rfl ?_
    refine V_if_lt (pc := 95) (tgt := 109) dX12_bells_95 (by decide) (fun c36 => ?_) (fun c36 => ?_)
    · rw [if_pos c36] at e
      exact V_pick [3, 0] rfl (r_X12_bells_b109 v2 r22 h19 e hF)
    · rw [if_neg c36] at e
      refine V_pick [2, 3, 1, 0] rfl ?_
      refine V_iload_n (pc := 98) (i := 2) dX12_bells_98 rfl rfl ?_
      refine V_iconst (pc := 99) (v := (-1 : Int32)) dX12_bells_99 (by decide) ?_
      refine V_icmp_eq (pc := 100) (tgt := 109) dX12_bells_100 (by decide) (fun c35 => ?_) (fun c35 => ?_)
      · rw [if_pos c35] at e
        exact V_pick [1, 3] rfl (r_X12_bells_b109 v2 r22 h19 e hF)
      · rw [if_neg c35] at e
        refine V_pick [0, 1, 2, 3] rfl ?_
        refine V_iload_n (pc := 103) (i := 2) dX12_bells_103 rfl rfl ?_
        refine V_iload (pc := 104) (i := 5) dX12_bells_104 rfl ?_
        refine V_icmp_lt (pc := 106) (tgt := 121) dX12_bells_106 (by decide) (fun c34 => ?_) (fun c34 => ?_)
        · rw [if_pos c34] at e
          refine V_pick [0, 1, 2, 3] rfl ?_
          refine V_iconst (pc := 121) (v := (-1 : Int32)) dX12_bells_121 (by decide) ?_
          refine V_istore (pc := 122) (i := 6) (lv' := [(6, .int (-1 : Int32)), (0, .ref v0), (2, .int v2), (4, .int r18), (5, .int r22)]) dX12_bells_122 (by decide) rfl ?_
          refine V_iconst (pc := 124) (v := (0 : Int32)) dX12_bells_124 (by decide) ?_
          refine V_istore (pc := 125) (i := 7) (lv' := [(7, .int (0 : Int32)), (6, .int (-1 : Int32)), (0, .ref v0), (2, .int v2), (4, .int r18), (5, .int r22)]) dX12_bells_125 (by decide) rfl ?_
          refine V_pick [2, 3, 4, 5, 1, 0] rfl ?_
          obtain ⟨y32, g33, e⟩ := ob_some e
          refine iter_V (P := fun z : Int32 × Int32 × Int32 => V M_X12_bells x 7 127 [(0, .ref v0), (2, .int v2), (4, .int z.1), (5, .int r22), (6, .int z.2.1), (7, .int z.2.2)] [] h19 0 0) (E := fun z : Int32 => V M_X12_bells x 7 172 [(6, .int z)] [] h19 0 0) (fun z o e9 k1 k2 => r_X12_bells_l127 v0 v2 z.1 r22 z.2.1 z.2.2 h19 e9 (fun z hz9 => k1 z hz9) (fun z hz9 => k2 _ hz9)) _ _ _ g33 ?_
          clear g33
          obtain ⟨w31, rfl⟩ : ∃ q, q = y32 := ⟨_, rfl⟩
          replace e : (some (w31, h19)) = some (r, hz) := e
          show V M_X12_bells x 7 172 [(6, .int w31)] [] h19 0 0
          refine V_iload (pc := 172) (i := 6) dX12_bells_172 rfl ?_
          cases e
          exact V_iret (pc := 174) dX12_bells_174 hF
        · rw [if_neg c34] at e
          exact V_pick [1, 3] rfl (r_X12_bells_b109 v2 r22 h19 e hF)
  · rw [if_neg c37] at e
    refine V_pick [] rfl ?_
    refine V_iconst (pc := 71) (v := (-1 : Int32)) dX12_bells_71 (by decide) ?_
    cases e
    exact V_iret (pc := 72) dX12_bells_72 hF
set_option maxRecDepth 100000 in
def F_X12_bells_b40 (v0 : Nat) (v1 : Int32) (v2 : Int32) (v3 : Int32) (t0 : Nat) (t1 : Int32) (h : Hp) : Option (Int32 × Hp) :=
  ob2 (F_X12_throwsIf t0 t1 (1 : Int32) h) fun r6 h7 => gd (decide (kd h t0 = 11)) <| (if r6 = 0 then ob2 (F_X12_laysAll v0 h7) fun _ h11 => gd (decide (kd h7 v0 = 11)) <| (if v1 = (-1 : Int32) then ob2 (F_X12_findsSeats v0 h11) fun _ h40 => gd (decide (kd h11 v0 = 11)) <| gd (decide (kd h40 v0 = 11)) <| F_X12_bells_b67 v0 v2 (zI h40 v0 23) h40 else F_X12_bells_b67 v0 v2 v3 h11) else some ((0 : Int32), h7))
set_option maxHeartbeats 4000000 in
set_option maxRecDepth 100000 in
theorem r_X12_bells_b40 (v0 : Nat) (v1 : Int32) (v2 : Int32) (v3 : Int32) (t0 : Nat) (t1 : Int32) (h : Hp) {x : Cx} {r : Int32} {hz : Hp} (e : F_X12_bells_b40 v0 v1 v2 v3 t0 t1 h = some (r, hz)) (hF : Fin9 M_X12_bells x (some .int) (some (.int r)) hz) : V M_X12_bells x 7 40 [(0, .ref v0), (1, .int v1), (2, .int v2), (3, .int v3)] [.int t1, .ref t0] h 0 0 := by
  unfold F_X12_bells_b40 at e
  refine V_iconst (pc := 40) (v := (1 : Int32)) dX12_bells_40 (by decide) ?_
  obtain ⟨r6, h7, g5, e⟩ := ob2_some e
  obtain ⟨g8, e⟩ := gd_some e
  refine V_callV (pc := 41) (bc := 0) (bs := 0) (mc := 0) (ms := 0) (st := []) (As := [.int t1, .int (1 : Int32)]) (a := t0) (h' := h7) (r := some (.int r6)) dX12_bells_41 ml_X12_240 (ci := 11) rfl (of_decide_eq_true g8) rfl rfl (Nat.le_of_ble_eq_true rfl) (d' := 0) (by decide) (c_X12_throwsIf (l := x.2.1) t0 t1 (1 : Int32) h g5) ?_
  refine V_if_eq (pc := 44) (tgt := 49) dX12_bells_44 (by decide) (fun c44 => ?_) (fun c44 => ?_)
  · rw [if_pos c44] at e
    refine V_pick [0, 1, 2, 3] rfl ?_
    refine V_aload_n (pc := 49) (i := 0) dX12_bells_49 rfl rfl ?_
    obtain ⟨r10, h11, g9, e⟩ := ob2_some e
    obtain ⟨g12, e⟩ := gd_some e
    refine V_callV (pc := 50) (bc := 0) (bs := 0) (mc := 0) (ms := 0) (st := []) (As := []) (a := v0) (h' := h11) (r := none) dX12_bells_50 ml_X12_352 (ci := 11) rfl (of_decide_eq_true g12) rfl rfl (Nat.le_of_ble_eq_true rfl) (d' := 6) (by decide) (c_X12_laysAll (l := x.2.1) v0 h7 g9) ?_
    refine V_iload_n (pc := 53) (i := 1) dX12_bells_53 rfl rfl ?_
    refine V_iconst (pc := 54) (v := (-1 : Int32)) dX12_bells_54 (by decide) ?_
    refine V_icmp_ne (pc := 55) (tgt := 67) dX12_bells_55 (by decide) (fun c43 => ?_) (fun c43 => ?_)
    · rw [if_neg c43] at e
      exact V_pick [0, 2, 3] rfl (r_X12_bells_b67 v0 v2 v3 h11 e hF)
    · rw [if_pos c43] at e
      refine V_pick [0, 2] rfl ?_
      refine V_aload_n (pc := 58) (i := 0) dX12_bells_58 rfl rfl ?_
      obtain ⟨r39, h40, g38, e⟩ := ob2_some e
      obtain ⟨g41, e⟩ := gd_some e
      refine V_callV (pc := 59) (bc := 0) (bs := 0) (mc := 0) (ms := 0) (st := []) (As := []) (a := v0) (h' := h40) (r := none) dX12_bells_59 ml_X12_355 (ci := 11) rfl (of_decide_eq_true g41) rfl rfl (Nat.le_of_ble_eq_true rfl) (d' := 6) (by decide) (c_X12_findsSeats (l := x.2.1) v0 h11 g38) ?_
      refine V_aload_n (pc := 62) (i := 0) dX12_bells_62 rfl rfl ?_
      obtain ⟨g42, e⟩ := gd_some e
      refine V_getI (pc := 63) (ci := 11) (k := 23) dX12_bells_63 fl_X12_343 rfl (of_decide_eq_true g42) ?_
      refine V_istore_n (pc := 66) (i := 3) (lv' := [(3, .int (zI h40 v0 23)), (0, .ref v0), (2, .int v2)]) dX12_bells_66 rfl (by decide) rfl ?_
      exact V_pick [1, 2, 0] rfl (r_X12_bells_b67 v0 v2 (zI h40 v0 23) h40 e hF)
  · rw [if_neg c44] at e
    refine V_pick [] rfl ?_
    refine V_iconst (pc := 47) (v := (0 : Int32)) dX12_bells_47 (by decide) ?_
    cases e
    exact V_iret (pc := 48) dX12_bells_48 hF
set_option maxRecDepth 100000 in
def F_X12_bells_b35 (v0 : Nat) (v1 : Int32) (v2 : Int32) (v3 : Int32) (t0 : Nat) (h : Hp) : Option (Int32 × Hp) :=
  F_X12_bells_b40 v0 v1 v2 v3 t0 (1 : Int32) h
set_option maxHeartbeats 4000000 in
set_option maxRecDepth 100000 in
theorem r_X12_bells_b35 (v0 : Nat) (v1 : Int32) (v2 : Int32) (v3 : Int32) (t0 : Nat) (h : Hp) {x : Cx} {r : Int32} {hz : Hp} (e : F_X12_bells_b35 v0 v1 v2 v3 t0 h = some (r, hz)) (hF : Fin9 M_X12_bells x (some .int) (some (.int r)) hz) : V M_X12_bells x 7 35 [(0, .ref v0), (1, .int v1), (2, .int v2), (3, .int v3)] [.ref t0] h 0 0 := by
  unfold F_X12_bells_b35 at e
  refine V_iconst (pc := 35) (v := (1 : Int32)) dX12_bells_35 (by decide) ?_
  refine V_goto (pc := 36) (tgt := 40) dX12_bells_36 (by decide) ?_
  exact V_pick [0, 1, 2, 3] rfl (r_X12_bells_b40 v0 v1 v2 v3 t0 (1 : Int32) h e hF)
set_option maxRecDepth 100000 in
def F_X12_bells_b30 (v0 : Nat) (v1 : Int32) (v2 : Int32) (v3 : Int32) (t0 : Nat) (h : Hp) : Option (Int32 × Hp) :=
  (if (-1 : Int32) ≤ v2 then F_X12_bells_b40 v0 v1 v2 v3 t0 (0 : Int32) h else F_X12_bells_b35 v0 v1 v2 v3 t0 h)
set_option maxHeartbeats 4000000 in
set_option maxRecDepth 100000 in
theorem r_X12_bells_b30 (v0 : Nat) (v1 : Int32) (v2 : Int32) (v3 : Int32) (t0 : Nat) (h : Hp) {x : Cx} {r : Int32} {hz : Hp} (e : F_X12_bells_b30 v0 v1 v2 v3 t0 h = some (r, hz)) (hF : Fin9 M_X12_bells x (some .int) (some (.int r)) hz) : V M_X12_bells x 7 30 [(0, .ref v0), (1, .int v1), (2, .int v2), (3, .int v3)] [.ref t0] h 0 0 := by
  unfold F_X12_bells_b30 at e
  refine V_iload_n (pc := 30) (i := 2) dX12_bells_30 rfl rfl ?_
  refine V_iconst (pc := 31) (v := (-1 : Int32)) dX12_bells_31 (by decide) ?_
  refine V_icmp_ge (pc := 32) (tgt := 39) dX12_bells_32 (by decide) (fun c45 => ?_) (fun c45 => ?_)
  · rw [if_pos c45] at e
    refine V_pick [0, 1, 2, 3] rfl ?_
    refine V_iconst (pc := 39) (v := (0 : Int32)) dX12_bells_39 (by decide) ?_
    exact V_pick [0, 1, 2, 3] rfl (r_X12_bells_b40 v0 v1 v2 v3 t0 (0 : Int32) h e hF)
  · rw [if_neg c45] at e
    exact V_pick [0, 1, 2, 3] rfl (r_X12_bells_b35 v0 v1 v2 v3 t0 h e hF)
set_option maxRecDepth 100000 in
def F_X12_bells_b19 (v0 : Nat) (v1 : Int32) (v2 : Int32) (t0 : Int32) (h : Hp) : Option (Int32 × Hp) :=
  (if v1 = (-1 : Int32) then F_X12_bells_b30 v0 v1 v2 t0 v0 h else (if t0 < 0 then F_X12_bells_b35 v0 v1 v2 t0 v0 h else F_X12_bells_b30 v0 v1 v2 t0 v0 h))
set_option maxHeartbeats 4000000 in
set_option maxRecDepth 100000 in
theorem r_X12_bells_b19 (v0 : Nat) (v1 : Int32) (v2 : Int32) (t0 : Int32) (h : Hp) {x : Cx} {r : Int32} {hz : Hp} (e : F_X12_bells_b19 v0 v1 v2 t0 h = some (r, hz)) (hF : Fin9 M_X12_bells x (some .int) (some (.int r)) hz) : V M_X12_bells x 7 19 [(0, .ref v0), (1, .int v1), (2, .int v2)] [.int t0] h 0 0 := by
  unfold F_X12_bells_b19 at e
  refine V_istore_n (pc := 19) (i := 3) (lv' := [(3, .int t0), (0, .ref v0), (1, .int v1), (2, .int v2)]) dX12_bells_19 rfl (by decide) rfl ?_
  refine V_aload_n (pc := 20) (i := 0) dX12_bells_20 rfl rfl ?_
  refine V_iload_n (pc := 21) (i := 1) dX12_bells_21 rfl rfl ?_
  refine V_iconst (pc := 22) (v := (-1 : Int32)) dX12_bells_22 (by decide) ?_
  refine V_icmp_eq (pc := 23) (tgt := 30) dX12_bells_23 (by decide) (fun c47 => ?_) (fun c47 => ?_)
  · rw [if_pos c47] at e
    exact V_pick [1, 2, 3, 0] rfl (r_X12_bells_b30 v0 v1 v2 t0 v0 h e hF)
  · rw [if_neg c47] at e
    refine V_pick [1, 2, 3, 0] rfl ?_
    refine V_iload_n (pc := 26) (i := 3) dX12_bells_26 rfl rfl ?_
    refine V_if_lt (pc := 27) (tgt := 35) dX12_bells_27 (by decide) (fun c46 => ?_) (fun c46 => ?_)
    · rw [if_pos c46] at e
      exact V_pick [0, 1, 2, 3] rfl (r_X12_bells_b35 v0 v1 v2 t0 v0 h e hF)
    · rw [if_neg c46] at e
      exact V_pick [0, 1, 2, 3] rfl (r_X12_bells_b30 v0 v1 v2 t0 v0 h e hF)
set_option maxRecDepth 100000 in
def F_X12_bells_b0 (v0 : Nat) (v1 : Int32) (v2 : Int32) (h : Hp) : Option (Int32 × Hp) :=
  gd (decide (kd h v0 = 11)) <| (if v1 = (-1 : Int32) then F_X12_bells_b19 v0 v1 v2 (-1 : Int32) (setI h v0 0 (0 : Int32)) else ob2 (F_X12_orderOf v0 v1 (setI h v0 0 (0 : Int32))) fun r3 h4 => F_X12_bells_b19 v0 v1 v2 r3 h4)
set_option maxHeartbeats 4000000 in
set_option maxRecDepth 100000 in
theorem r_X12_bells_b0 (v0 : Nat) (v1 : Int32) (v2 : Int32) (h : Hp) {x : Cx} {r : Int32} {hz : Hp} (e : F_X12_bells_b0 v0 v1 v2 h = some (r, hz)) (hF : Fin9 M_X12_bells x (some .int) (some (.int r)) hz) : V M_X12_bells x 7 0 [(0, .ref v0), (1, .int v1), (2, .int v2)] [] h 0 0 := by
  unfold F_X12_bells_b0 at e
  refine V_aload_n (pc := 0) (i := 0) dX12_bells_0 rfl rfl ?_
  refine V_iconst (pc := 1) (v := (0 : Int32)) dX12_bells_1 (by decide) ?_
  obtain ⟨g1, e⟩ := gd_some e
  refine V_putI (pc := 2) (ci := 11) (k := 0) dX12_bells_2 fp_X12_3 rfl (of_decide_eq_true g1) ?_
  refine V_iload_n (pc := 5) (i := 1) dX12_bells_5 rfl rfl ?_
  refine V_iconst (pc := 6) (v := (-1 : Int32)) dX12_bells_6 (by decide) ?_
  refine V_icmp_ne (pc := 7) (tgt := 14) dX12_bells_7 (by decide) (fun c48 => ?_) (fun c48 => ?_)
  · rw [if_neg c48] at e
    refine V_pick [0, 1, 2] rfl ?_
    refine V_aload_n (pc := 14) (i := 0) dX12_bells_14 rfl rfl ?_
    refine V_iload_n (pc := 15) (i := 1) dX12_bells_15 rfl rfl ?_
    obtain ⟨r3, h4, g2, e⟩ := ob2_some e
    refine V_callV (pc := 16) (bc := 0) (bs := 0) (mc := 0) (ms := 0) (st := []) (As := [.int v1]) (a := v0) (h' := h4) (r := some (.int r3)) dX12_bells_16 ml_X12_364 (ci := 11) rfl (of_decide_eq_true g1) rfl rfl (Nat.le_of_ble_eq_true rfl) (d' := 3) (by decide) (c_X12_orderOf (l := x.2.1) v0 v1 (setI h v0 0 (0 : Int32)) g2) ?_
    exact V_pick [0, 1, 2] rfl (r_X12_bells_b19 v0 v1 v2 r3 h4 e hF)
  · rw [if_pos c48] at e
    refine V_pick [0, 1, 2] rfl ?_
    refine V_iconst (pc := 10) (v := (-1 : Int32)) dX12_bells_10 (by decide) ?_
    refine V_goto (pc := 11) (tgt := 19) dX12_bells_11 (by decide) ?_
    exact V_pick [0, 1, 2] rfl (r_X12_bells_b19 v0 v1 v2 (-1 : Int32) (setI h v0 0 (0 : Int32)) e hF)
def F_X12_bells (v0 : Nat) (v1 : Int32) (v2 : Int32) (h : Hp) : Option (Int32 × Hp) := F_X12_bells_b0 v0 v1 v2 h
theorem c_X12_bells {l : Launch} (v0 : Nat) (v1 : Int32) (v2 : Int32) (h : Hp) {r : Int32} {hz : Hp} (e : F_X12_bells v0 v1 v2 h = some (r, hz)) : Ct l yX12_bells M_X12_bells (some .int) 7 [.ref v0, .int v1, .int v2] h 0 0 (some (.int r)) hz :=
  Ct_of rfl rfl (fun q => by cases q) (Nat.le_of_ble_eq_true rfl) (fun x _ hF => V_pick [0, 1, 2] rfl (r_X12_bells_b0 v0 v1 v2 h e hF))

/-! STRING CONSTANTS: their rows, the JDK's methods on them; calls of inherited methods, of another class's static methods -/
theorem sB_len : sB.length = 64 := by decide +kernel
theorem sB_at {j : Nat} (h : j < 64) : sB[j]? = some (sB.getD j []) := by
  rw [List.getD_eq_getElem?_getD, List.getElem?_eq_getElem (by rw [sB_len]; exact h)]
  rfl
section VSTR9
variable {M M' : MI} {x : Cx} {d d' pc idx n : Nat} {lv : List (Nat × Value)} {st stk As : List Value} {h h' : Hp} {bc bs mc ms : Nat} {r : Option Value} {y : MethodName} {ret : Option FieldType}
theorem V_sval {u v : UInt32} (hd : decode M.1 pc = .ok (.getfield idx, 3)) (hw : Cond.fieldLink M.2.2.1 idx "java/lang/String" "value" "[B" ∈ gTbl) (hu : u.toNat < 64) (hv : v.toNat = u.toNat + 1000) (kk : V M x d (pc + 3) lv (.float v :: st) h bc bs) : V M x d pc lv (.float u :: st) h bc bs := by
  obtain ⟨p, l, e, R, s, m, args, below, meth, c, D, cy, sk, A, n0, ad0, Q⟩ := x
  intro X hf hlc ad H locs ls cells slots hR hl ol os h1 h2
  have a := (X.2.2.2.2.2.2.2.2.1.2.1 u.toNat _ (sB_at hu)).2.2.1
  have kk := kk X hf hlc ad H locs ls cells slots hR hl ol ⟨trivial, os.2⟩ h1 h2
  simp only [List.map_cons, tv, hv] at kk
  exact vk_getf X.1 X.2.1 a hR.2.2.1 X.2.2.2.1 (X.2.2.2.2.1 _ hw) (fun _ q => q) hd kk
theorem V_scod {u : UInt32} (hd : decode M.1 pc = .ok (.getfield idx, 3)) (hw : Cond.fieldLink M.2.2.1 idx "java/lang/String" "coder" "B" ∈ gTbl) (hu : u.toNat < 64) (kk : V M x d (pc + 3) lv (.int 0 :: st) h bc bs) : V M x d pc lv (.float u :: st) h bc bs := by
  obtain ⟨p, l, e, R, s, m, args, below, meth, c, D, cy, sk, A, n0, ad0, Q⟩ := x
  intro X hf hlc ad H locs ls cells slots hR hl ol os h1 h2
  have a := (X.2.2.2.2.2.2.2.2.1.2.1 u.toNat _ (sB_at hu)).2.1
  exact vk_getf X.1 X.2.1 a hR.2.2.1 X.2.2.2.1 (X.2.2.2.2.1 _ hw) (fun _ q => q) hd (kk X hf hlc ad H locs ls cells slots hR hl ol ⟨trivial, os.2⟩ h1 h2)
theorem V_salen {v : UInt32} {j : Nat} (hd : decode M.1 pc = .ok (.arraylength, 1)) (hj : j < 64) (hv : v.toNat = j + 1000) (kk : V M x d (pc + 1) lv (.int (Int32.ofNat (sB.getD j []).length) :: st) h bc bs) : V M x d pc lv (.float v :: st) h bc bs := by
  obtain ⟨p, l, e, R, s, m, args, below, meth, c, D, cy, sk, A, n0, ad0, Q⟩ := x
  intro X hf hlc ad H locs ls cells slots hR hl ol os h1 h2
  have a := (X.2.2.2.2.2.2.2.2.1.2.1 j _ (sB_at hj)).2.2.2
  have kk := kk X hf hlc ad H locs ls cells slots hR hl ol ⟨trivial, os.2⟩ h1 h2
  simp only [List.map_cons, tv, hv] at kk ⊢
  exact va_tlen X.1 X.2.1 a hR.2.2.1 rfl hd kk
theorem V_sbal {v : UInt32} {j : Nat} {i : Int32} (hd : decode M.1 pc = .ok (.baload, 1)) (hj : j < 64) (hv : v.toNat = j + 1000) (hi : vp_in i (sB.getD j []).length) (kk : V M x d (pc + 1) lv (.int ((sB.getD j []).getD i.toNatClampNeg 0) :: st) h bc bs) : V M x d pc lv (.int i :: .float v :: st) h bc bs := by
  obtain ⟨p, l, e, R, s, m, args, below, meth, c, D, cy, sk, A, n0, ad0, Q⟩ := x
  intro X hf hlc ad H locs ls cells slots hR hl ol os h1 h2
  have a := (X.2.2.2.2.2.2.2.2.1.2.1 j _ (sB_at hj)).2.2.2
  have kk := kk X hf hlc ad H locs ls cells slots hR hl ol ⟨trivial, os.2.2⟩ h1 h2
  simp only [List.map_cons, tv, hv] at kk ⊢
  exact va_tb X.1 X.2.1 a hR.2.2.1 hi rfl hd kk
theorem V_gcs (hd : decode M.1 pc = .ok (.getstatic idx, 3)) (hw : Cond.fieldLink M.2.2.1 idx "java/lang/String" "COMPACT_STRINGS" "Z" ∈ gTbl) (kk : V M x d (pc + 3) lv (.int 1 :: st) h bc bs) : V M x d pc lv st h bc bs := by
  obtain ⟨p, l, e, R, s, m, args, below, meth, c, D, cy, sk, A, n0, ad0, Q⟩ := x
  intro X hf hlc ad H locs ls cells slots hR hl ol os h1 h2
  exact va_gets X.1 X.2.1 X.2.2.2.2.2.2.2.2.1.2.2.2.1 hR.2.2.1 X.2.2.2.1 (X.2.2.2.2.1 _ hw) (fun _ q => q) hd (kk X hf hlc ad H locs ls cells slots hR hl ol ⟨trivial, os⟩ h1 h2)
theorem V_gsi (hd : decode M.1 pc = .ok (.getstatic idx, 3)) (hw : Cond.fieldLink M.2.2.1 idx "jdk/internal/util/Preconditions" "SIOOBE_FORMATTER" "Ljava/util/function/BiFunction;" ∈ gTbl) (kk : V M x d (pc + 3) lv (.float 2000 :: st) h bc bs) (k2 : V M x d (pc + 3) lv (.null :: st) h bc bs) : V M x d pc lv st h bc bs := by
  obtain ⟨p, l, e, R, s, m, args, below, meth, c, D, cy, sk, A, n0, ad0, Q⟩ := x
  intro X hf hlc ad H locs ls cells slots hR hl ol os h1 h2
  rcases X.2.2.2.2.2.2.2.2.1.2.2.1 with a | a
  · exact va_gets X.1 X.2.1 a hR.2.2.1 X.2.2.2.1 (X.2.2.2.2.1 _ hw) (fun _ q => q) hd (kk X hf hlc ad H locs ls cells slots hR hl ol ⟨trivial, os⟩ h1 h2)
  · exact va_gets X.1 X.2.1 a hR.2.2.1 X.2.2.2.1 (X.2.2.2.2.1 _ hw) (fun _ q => q) hd (k2 X hf hlc ad H locs ls cells slots hR hl ol ⟨trivial, os⟩ h1 h2)
theorem V_i2c {a : Int32} (hd : decode M.1 pc = .ok (.i2c, 1)) (kk : V M x d (pc + 1) lv (.int (a.toUInt32 % 65536).toInt32 :: st) h bc bs) : V M x d pc lv (.int a :: st) h bc bs := by
  obtain ⟨p, l, e, R, s, m, args, below, meth, c, D, cy, sk, A, n0, ad0, Q⟩ := x
  intro X hf hlc ad H locs ls cells slots hR hl ol os h1 h2
  exact lv_i2c X.1 X.2.1 hd rfl (kk X hf hlc ad H locs ls cells slots hR hl ol ⟨trivial, os.2⟩ h1 h2)
theorem V_callVS {u : UInt32} (hd : decode M.1 pc = .ok (.invokevirtual idx, 3)) (hm : MLV M.2.2.1 idx y M' ret n) (hc : y.cls = "java/lang/String") (hu : u.toNat < 64) (hst : stk = As.reverse ++ .float u :: st) (hn : As.length = n) (hw : (st.map fun v => v.category).sum ≤ 8) (hdd : d' < d) (hC : Ct x.2.1 y M' ret d' (.float u :: As) h mc ms r h') (kk : V M x d (pc + 3) lv (r.toList ++ st) h' bc bs) : V M x d pc lv stk h (bc + mc) (bs + ms) := by
  obtain ⟨p, l, e, R, s, m, args, below, meth, c, D, cy, sk, A, n0, ad0, Q⟩ := x
  intro X hf hlc ad H locs ls cells slots hR hl ol os h1 h2
  obtain ⟨m1, m2, m3, m4, m5, m6, m7⟩ := hm
  rw [hst] at os
  obtain ⟨o1, o2⟩ := oks_append os
  have hM := hC hR.2.2.2.1 ⟨o2.1, oks_rev o1⟩ D cy sk ad H.size
  refine V_after (a9 := (Value.ref (sk u.toNat) :: As.map (tv sk ad)).toArray) X hf hlc hR hl ol o2.2 h1 h2 ?_ kk
  have hrecv : ∃ cell : Cell, H[sk u.toNat]? = some cell ∧ cell.vm.isStatics = false ∧ s.vm.findClass y.cls = some cell.cls := by
    obtain ⟨cell, q1, q2, q3, -⟩ := (X.2.2.2.2.2.2.2.2.1.2.1 u.toNat _ (sB_at hu)).1.kept hR.2.2.1.2.1
    exact ⟨cell, q1, q2, by rw [hc]; exact q3⟩
  exact va_runV ⟨X.1, X.2.1, X.2.2.1, X.2.2.2.1, X.2.2.2.2.1⟩ hM (cwV n X.2.2.2.2.1 (gIn (fun w hw => by
      rcases List.mem_append.mp hw with hw | hw
      · rcases List.mem_cons.mp hw with rfl | hw
        · exact m1
        · rcases List.mem_cons.mp hw with rfl | hw
          · exact m2
          · rcases List.mem_cons.mp hw with rfl | hw
            · exact m3
            · rcases List.mem_cons.mp hw with rfl | hw
              · exact m4
              · cases hw
      · rcases List.mem_cons.mp hw with rfl | hw
        · exact m5
        · exact hw)) rfl rfl rfl ⟨rfl, m6⟩ ⟨by show d' + 1 ≤ _; omega, by show 8 + (M'.2.1 + 11) + 64 * d' ≤ _; omega⟩)
    ⟨CtP_blind, hrecv, fun U hU hW => ⟨rfl, by rw [hU], by rw [hU]; exact hR.1, va_K.moved hW.alike X.2.2.2.2.2.1, hR.2.1.weaken (fun _ _ _ _ => trivial), X.2.2.2.2.2.2.2.2.1.call hR.2.2.1 hU hW (va_A_sub hR.2.1 hR.2.2.1 X.2.2.2.2.2.2.1)⟩⟩ rfl (by rw [List.length_map]; exact hn) hl.1 (by rw [hst, List.map_append, List.map_reverse, List.map_cons]; rfl) (lv_room (by rw [cat_sum]; exact hw)) hd ⟨by omega, by omega⟩
def MLT (own : String) (idx : Nat) (y : MethodName) (M : MI) (ret : Option FieldType) (n : Nat) : Prop := Cond.methodLink own idx y ∈ gTbl ∧ Cond.static y ∈ gTbl ∧ Cond.initialized y.cls ∈ gTbl ∧ Cond.code y M.1 M.2.1 ret ∈ gTbl ∧ (y.cls ≠ "java/lang/invoke/MethodHandle" ∧ y.cls ≠ "java/lang/invoke/VarHandle" ∧ (parseMethodDescriptor y.desc).map (fun d => d.parameters.length) = some n) ∧ M.2.1 ≤ 45
theorem V_callT (hd : decode M.1 pc = .ok (.invokestatic idx, 3)) (hm : MLT M.2.2.1 idx y M' ret n) (hst : stk = As.reverse ++ st) (hn : As.length = n) (hw : (st.map fun v => v.category).sum ≤ 8) (hdd : d' < d) (hC : Ct x.2.1 y M' ret d' As h mc ms r h') (kk : V M x d (pc + 3) lv (r.toList ++ st) h' bc bs) : V M x d pc lv stk h (bc + mc) (bs + ms) := by
  obtain ⟨p, l, e, R, s, m, args, below, meth, c, D, cy, sk, A, n0, ad0, Q⟩ := x
  intro X hf hlc ad H locs ls cells slots hR hl ol os h1 h2
  obtain ⟨m1, m2, m4, m5, m6, m7⟩ := hm
  rw [hst] at os
  obtain ⟨o1, o2⟩ := oks_append os
  have hM := hC hR.2.2.2.1 (oks_rev o1) D cy sk ad H.size
  refine V_after (a9 := (As.map (tv sk ad)).toArray) X hf hlc hR hl ol o2 h1 h2 ?_ kk
  exact va_runS ⟨X.1, X.2.1, X.2.2.1, X.2.2.2.1, X.2.2.2.2.1⟩ hM (va_cwS n X.2.2.2.2.1 (gIn (fun w hw => by
      rcases List.mem_append.mp hw with hw | hw
      · rcases List.mem_cons.mp hw with rfl | hw
        · exact m1
        · rcases List.mem_cons.mp hw with rfl | hw
          · exact m2
          · rcases List.mem_cons.mp hw with rfl | hw
            · exact m4
            · cases hw
      · rcases List.mem_cons.mp hw with rfl | hw
        · exact m5
        · exact hw)) rfl rfl rfl m6 ⟨by show d' + 1 ≤ _; omega, by show 8 + (M'.2.1 + 11) + 64 * d' ≤ _; omega⟩)
    ⟨CtP_blind, fun U hU hW => ⟨rfl, by rw [hU], by rw [hU]; exact hR.1, va_K.moved hW.alike X.2.2.2.2.2.1, hR.2.1.weaken (fun _ _ _ _ => trivial), X.2.2.2.2.2.2.2.2.1.call hR.2.2.1 hU hW (va_A_sub hR.2.1 hR.2.2.1 X.2.2.2.2.2.2.1)⟩⟩ rfl (by rw [List.length_map]; exact hn) hl.1 (stk_eqS hst) (lv_room (by rw [cat_sum]; exact hw)) hd ⟨by omega, by omega⟩
def MLU (own : String) (idx : Nat) (C owner : String) (x0 y : MethodName) (M : MI) (ret : Option FieldType) (n : Nat) : Prop := Cond.methodLink own idx x0 ∈ gTbl ∧ Cond.sameMethod x0.cls owner x0.name x0.desc ∈ gTbl ∧ Cond.selects C x0 y ∈ gTbl ∧ Cond.instanceMethod y ∈ gTbl ∧ Cond.initialized y.cls ∈ gTbl ∧ Cond.code y M.1 M.2.1 ret ∈ gTbl ∧ Cond.declares ⟨owner, x0.name, x0.desc⟩ ∈ nTbl ∧ (owner ≠ "java/lang/invoke/MethodHandle" ∧ owner ≠ "java/lang/invoke/VarHandle" ∧ (parseMethodDescriptor x0.desc).map (fun d => d.parameters.length) = some n) ∧ M.2.1 ≤ 45
theorem V_callU {a ci : Nat} {T : u_T} {N : Nat} {C owner : String} {x0 : MethodName} (hd : decode M.1 pc = .ok (.invokevirtual idx, 3)) (hm : MLU M.2.2.1 idx C owner x0 y M' ret n) (hc : vwCl[ci]? = some (C, T, N)) (hk : kd h a = ci) (hst : stk = As.reverse ++ .ref a :: st) (hn : As.length = n) (hw : (st.map fun v => v.category).sum ≤ 8) (hdd : d' < d) (hC : Ct x.2.1 y M' ret d' (.ref a :: As) h mc ms r h') (kk : V M x d (pc + 3) lv (r.toList ++ st) h' bc bs) : V M x d pc lv stk h (bc + mc) (bs + ms) := by
  obtain ⟨p, l, e, R, s, m, args, below, meth, c, D, cy, sk, A, n0, ad0, Q⟩ := x
  intro X hf hlc ad H locs ls cells slots hR hl ol os h1 h2
  obtain ⟨m1, m2, m3, m4, m5, m6, m7, m8, m9⟩ := hm
  rw [hst] at os
  obtain ⟨o1, o2⟩ := oks_append os
  have hM := hC hR.2.2.2.1 ⟨o2.1, oks_rev o1⟩ D cy sk ad H.size
  refine V_after (a9 := (Value.ref (ad a) :: As.map (tv sk ad)).toArray) X hf hlc hR hl ol o2.2 h1 h2 ?_ kk
  exact va_runU ⟨X.1, X.2.1, X.2.2.1, X.2.2.2.1, X.2.2.2.2.1⟩ hM (va_cwA n X.2.2.2.2.1 (gIn (fun w hw => by
      rcases List.mem_append.mp hw with hw | hw
      · rcases List.mem_cons.mp hw with rfl | hw
        · exact m1
        · rcases List.mem_cons.mp hw with rfl | hw
          · exact m2
          · rcases List.mem_cons.mp hw with rfl | hw
            · exact m3
            · rcases List.mem_cons.mp hw with rfl | hw
              · exact m4
              · rcases List.mem_cons.mp hw with rfl | hw
                · exact m5
                · cases hw
      · rcases List.mem_cons.mp hw with rfl | hw
        · exact m6
        · exact hw)) rfl rfl rfl (X.2.2.2.2.2.2.2.2.1.2.2.2.2.2.2.1 _ m7) m8 ⟨by show d' + 1 ≤ _; omega, by show 8 + (M'.2.1 + 11) + 64 * d' ≤ _; omega⟩)
    ⟨CtP_blind, va_recv X.2.2.2.2.2.1 hR.1 hc (wl_obj hk (vw_lt hc)), fun U hU hW => ⟨rfl, by rw [hU], by rw [hU]; exact hR.1, va_K.moved hW.alike X.2.2.2.2.2.1, hR.2.1.weaken (fun _ _ _ _ => trivial), X.2.2.2.2.2.2.2.2.1.call hR.2.2.1 hU hW (va_A_sub hR.2.1 hR.2.2.1 X.2.2.2.2.2.2.1)⟩⟩ rfl (by rw [List.length_map]; exact hn) hl.1 (stk_eq hst) (lv_room (by rw [cat_sum]; exact hw)) hd ⟨by omega, by omega⟩
end VSTR9

abbrev M_J0_coder_7d493 : MI := (cJ0_coder_7d493, 1, RJ0, false)
abbrev M_J0_length_8abf5 : MI := (cJ0_length_8abf5, 1, RJ0, false)
abbrev M_J0_isLatin1_aae02 : MI := (cJ0_isLatin1_aae02, 1, RJ0, false)
abbrev M_J3_checkIndex_8e157 : MI := (cJ3_checkIndex_8e157, 3, RJ3, false)
abbrev M_J0_checkIndex_df160 : MI := (cJ0_checkIndex_df160, 2, RJ0, false)
abbrev M_J1_charAt_3b067 : MI := (cJ1_charAt_3b067, 2, RJ1, false)
abbrev M_J0_charAt_5068e : MI := (cJ0_charAt_5068e, 2, RJ0, false)
theorem wj_1982 : Cond.fieldLink RJ0 9 "java/lang/String" "value" "[B" ∈ gTbl := gMem (List.mem_of_getElem? (i := 1982) (by decide +kernel)) (by decide +kernel)
theorem wj_1983 : Cond.fieldLink RJ0 15 "java/lang/String" "coder" "B" ∈ gTbl := gMem (List.mem_of_getElem? (i := 1983) (by decide +kernel)) (by decide +kernel)
theorem wj_773 : Cond.fieldLink RJ0 38 "java/lang/String" "COMPACT_STRINGS" "Z" ∈ gTbl := gMem (List.mem_of_getElem? (i := 773) (by decide +kernel)) (by decide +kernel)
theorem wj_789 : Cond.fieldLink RJ0 1053 "jdk/internal/util/Preconditions" "SIOOBE_FORMATTER" "Ljava/util/function/BiFunction;" ∈ gTbl := gMem (List.mem_of_getElem? (i := 789) (by decide +kernel)) (by decide +kernel)
theorem wj_769 : Cond.methodLink "java/lang/String" 335 yJ0_coder_7d493 ∈ gTbl := gMem (List.mem_of_getElem? (i := 769) (by decide +kernel)) (by decide +kernel)
theorem wj_770 : Cond.instanceMethod yJ0_coder_7d493 ∈ gTbl := gMem (List.mem_of_getElem? (i := 770) (by decide +kernel)) (by decide +kernel)
theorem wj_771 : Cond.selects "java/lang/String" yJ0_coder_7d493 yJ0_coder_7d493 ∈ gTbl := gMem (List.mem_of_getElem? (i := 771) (by decide +kernel)) (by decide +kernel)
theorem wj_118 : Cond.initialized "java/lang/String" ∈ gTbl := gMem (List.mem_of_getElem? (i := 118) (by decide +kernel)) (by decide +kernel)
theorem wj_772 : Cond.code yJ0_coder_7d493 cJ0_coder_7d493 1 (some .byte) ∈ gTbl := gMem (List.mem_of_getElem? (i := 772) (by decide +kernel)) (by decide +kernel)
theorem mj_coder : MLV RJ0 335 yJ0_coder_7d493 M_J0_coder_7d493 (some .byte) 0 := ⟨wj_769, wj_770, wj_771, wj_118, wj_772, by decide +kernel, by decide⟩
theorem wj_779 : Cond.methodLink "java/lang/String" 492 yJ0_isLatin1_aae02 ∈ gTbl := gMem (List.mem_of_getElem? (i := 779) (by decide +kernel)) (by decide +kernel)
theorem wj_780 : Cond.instanceMethod yJ0_isLatin1_aae02 ∈ gTbl := gMem (List.mem_of_getElem? (i := 780) (by decide +kernel)) (by decide +kernel)
theorem wj_781 : Cond.selects "java/lang/String" yJ0_isLatin1_aae02 yJ0_isLatin1_aae02 ∈ gTbl := gMem (List.mem_of_getElem? (i := 781) (by decide +kernel)) (by decide +kernel)
theorem wj_782 : Cond.code yJ0_isLatin1_aae02 cJ0_isLatin1_aae02 1 (some .boolean) ∈ gTbl := gMem (List.mem_of_getElem? (i := 782) (by decide +kernel)) (by decide +kernel)
theorem mj_latin : MLV RJ0 492 yJ0_isLatin1_aae02 M_J0_isLatin1_aae02 (some .boolean) 0 := ⟨wj_779, wj_780, wj_781, wj_118, wj_782, by decide +kernel, by decide⟩
theorem wj_791 : Cond.methodLink "java/lang/String" 1059 yJ3_checkIndex_8e157 ∈ gTbl := gMem (List.mem_of_getElem? (i := 791) (by decide +kernel)) (by decide +kernel)
theorem wj_792 : Cond.static yJ3_checkIndex_8e157 ∈ gTbl := gMem (List.mem_of_getElem? (i := 792) (by decide +kernel)) (by decide +kernel)
theorem wj_120 : Cond.initialized "jdk/internal/util/Preconditions" ∈ gTbl := gMem (List.mem_of_getElem? (i := 120) (by decide +kernel)) (by decide +kernel)
theorem wj_793 : Cond.code yJ3_checkIndex_8e157 cJ3_checkIndex_8e157 3 (some .int) ∈ gTbl := gMem (List.mem_of_getElem? (i := 793) (by decide +kernel)) (by decide +kernel)
theorem mj_check3 : MLT RJ0 1059 yJ3_checkIndex_8e157 M_J3_checkIndex_8e157 (some .int) 3 := ⟨wj_791, wj_792, wj_120, wj_793, by decide +kernel, by decide⟩
theorem wj_786 : Cond.methodLink "java/lang/StringLatin1" 9 yJ0_checkIndex_df160 ∈ gTbl := gMem (List.mem_of_getElem? (i := 786) (by decide +kernel)) (by decide +kernel)
theorem wj_787 : Cond.static yJ0_checkIndex_df160 ∈ gTbl := gMem (List.mem_of_getElem? (i := 787) (by decide +kernel)) (by decide +kernel)
theorem wj_788 : Cond.code yJ0_checkIndex_df160 cJ0_checkIndex_df160 2 none ∈ gTbl := gMem (List.mem_of_getElem? (i := 788) (by decide +kernel)) (by decide +kernel)
theorem mj_check : MLT RJ1 9 yJ0_checkIndex_df160 M_J0_checkIndex_df160 none 2 := ⟨wj_786, wj_787, wj_118, wj_788, by decide +kernel, by decide⟩
theorem wj_783 : Cond.methodLink "java/lang/String" 495 yJ1_charAt_3b067 ∈ gTbl := gMem (List.mem_of_getElem? (i := 783) (by decide +kernel)) (by decide +kernel)
theorem wj_784 : Cond.static yJ1_charAt_3b067 ∈ gTbl := gMem (List.mem_of_getElem? (i := 784) (by decide +kernel)) (by decide +kernel)
theorem wj_119 : Cond.initialized "java/lang/StringLatin1" ∈ gTbl := gMem (List.mem_of_getElem? (i := 119) (by decide +kernel)) (by decide +kernel)
theorem wj_785 : Cond.code yJ1_charAt_3b067 cJ1_charAt_3b067 2 (some .char) ∈ gTbl := gMem (List.mem_of_getElem? (i := 785) (by decide +kernel)) (by decide +kernel)
theorem mj_lchar : MLT RJ0 495 yJ1_charAt_3b067 M_J1_charAt_3b067 (some .char) 2 := ⟨wj_783, wj_784, wj_119, wj_785, by decide +kernel, by decide⟩
theorem wj_765 : Cond.methodLink "PinInn$Tape" 43 yJ0_length_8abf5 ∈ gTbl := gMem (List.mem_of_getElem? (i := 765) (by decide +kernel)) (by decide +kernel)
theorem wj_766 : Cond.instanceMethod yJ0_length_8abf5 ∈ gTbl := gMem (List.mem_of_getElem? (i := 766) (by decide +kernel)) (by decide +kernel)
theorem wj_767 : Cond.selects "java/lang/String" yJ0_length_8abf5 yJ0_length_8abf5 ∈ gTbl := gMem (List.mem_of_getElem? (i := 767) (by decide +kernel)) (by decide +kernel)
theorem wj_768 : Cond.code yJ0_length_8abf5 cJ0_length_8abf5 1 (some .int) ∈ gTbl := gMem (List.mem_of_getElem? (i := 768) (by decide +kernel)) (by decide +kernel)
theorem ms_X6_43 : MLV RX6 43 yJ0_length_8abf5 M_J0_length_8abf5 (some .int) 0 := ⟨wj_765, wj_766, wj_767, wj_118, wj_768, by decide +kernel, by decide⟩
theorem wj_775 : Cond.methodLink "PinInn$Tape" 48 yJ0_charAt_5068e ∈ gTbl := gMem (List.mem_of_getElem? (i := 775) (by decide +kernel)) (by decide +kernel)
theorem wj_776 : Cond.instanceMethod yJ0_charAt_5068e ∈ gTbl := gMem (List.mem_of_getElem? (i := 776) (by decide +kernel)) (by decide +kernel)
theorem wj_777 : Cond.selects "java/lang/String" yJ0_charAt_5068e yJ0_charAt_5068e ∈ gTbl := gMem (List.mem_of_getElem? (i := 777) (by decide +kernel)) (by decide +kernel)
theorem wj_778 : Cond.code yJ0_charAt_5068e cJ0_charAt_5068e 2 (some .char) ∈ gTbl := gMem (List.mem_of_getElem? (i := 778) (by decide +kernel)) (by decide +kernel)
theorem ms_X6_48 : MLV RX6 48 yJ0_charAt_5068e M_J0_charAt_5068e (some .char) 1 := ⟨wj_775, wj_776, wj_777, wj_118, wj_778, by decide +kernel, by decide⟩
theorem wj_1535 : Cond.methodLink "PinInnModel" 99 yJ0_length_8abf5 ∈ gTbl := gMem (List.mem_of_getElem? (i := 1535) (by decide +kernel)) (by decide +kernel)
theorem ms_X12_99 : MLV RX12 99 yJ0_length_8abf5 M_J0_length_8abf5 (some .int) 0 := ⟨wj_1535, wj_766, wj_767, wj_118, wj_768, by decide +kernel, by decide⟩
theorem wj_1536 : Cond.methodLink "PinInnModel" 104 yJ0_charAt_5068e ∈ gTbl := gMem (List.mem_of_getElem? (i := 1536) (by decide +kernel)) (by decide +kernel)
theorem ms_X12_104 : MLV RX12 104 yJ0_charAt_5068e M_J0_charAt_5068e (some .char) 1 := ⟨wj_1536, wj_776, wj_777, wj_118, wj_778, by decide +kernel, by decide⟩
theorem dJ0_coder_7d493_0 : decode cJ0_coder_7d493 0 = .ok (.getstatic 38, 3) := by decide +kernel
theorem dJ0_coder_7d493_3 : decode cJ0_coder_7d493 3 = .ok (.ifCond .eq 10, 3) := by decide +kernel
theorem dJ0_coder_7d493_6 : decode cJ0_coder_7d493 6 = .ok (.aload_n 0, 1) := by decide +kernel
theorem dJ0_coder_7d493_7 : decode cJ0_coder_7d493 7 = .ok (.getfield 15, 3) := by decide +kernel
theorem dJ0_coder_7d493_10 : decode cJ0_coder_7d493 10 = .ok (.goto 4, 3) := by decide +kernel
theorem dJ0_coder_7d493_13 : decode cJ0_coder_7d493 13 = .ok (.iconst 1, 1) := by decide +kernel
theorem dJ0_coder_7d493_14 : decode cJ0_coder_7d493 14 = .ok (.ireturn, 1) := by decide +kernel
theorem dJ0_length_8abf5_0 : decode cJ0_length_8abf5 0 = .ok (.aload_n 0, 1) := by decide +kernel
theorem dJ0_length_8abf5_1 : decode cJ0_length_8abf5 1 = .ok (.getfield 9, 3) := by decide +kernel
theorem dJ0_length_8abf5_4 : decode cJ0_length_8abf5 4 = .ok (.arraylength, 1) := by decide +kernel
theorem dJ0_length_8abf5_5 : decode cJ0_length_8abf5 5 = .ok (.aload_n 0, 1) := by decide +kernel
theorem dJ0_length_8abf5_6 : decode cJ0_length_8abf5 6 = .ok (.invokevirtual 335, 3) := by decide +kernel
theorem dJ0_length_8abf5_9 : decode cJ0_length_8abf5 9 = .ok (.ishr, 1) := by decide +kernel
theorem dJ0_length_8abf5_10 : decode cJ0_length_8abf5 10 = .ok (.ireturn, 1) := by decide +kernel
theorem dJ0_isLatin1_aae02_0 : decode cJ0_isLatin1_aae02 0 = .ok (.getstatic 38, 3) := by decide +kernel
theorem dJ0_isLatin1_aae02_3 : decode cJ0_isLatin1_aae02 3 = .ok (.ifCond .eq 14, 3) := by decide +kernel
theorem dJ0_isLatin1_aae02_6 : decode cJ0_isLatin1_aae02 6 = .ok (.aload_n 0, 1) := by decide +kernel
theorem dJ0_isLatin1_aae02_7 : decode cJ0_isLatin1_aae02 7 = .ok (.getfield 15, 3) := by decide +kernel
theorem dJ0_isLatin1_aae02_10 : decode cJ0_isLatin1_aae02 10 = .ok (.ifCond .ne 7, 3) := by decide +kernel
theorem dJ0_isLatin1_aae02_13 : decode cJ0_isLatin1_aae02 13 = .ok (.iconst 1, 1) := by decide +kernel
theorem dJ0_isLatin1_aae02_14 : decode cJ0_isLatin1_aae02 14 = .ok (.goto 4, 3) := by decide +kernel
theorem dJ0_isLatin1_aae02_17 : decode cJ0_isLatin1_aae02 17 = .ok (.iconst 0, 1) := by decide +kernel
theorem dJ0_isLatin1_aae02_18 : decode cJ0_isLatin1_aae02 18 = .ok (.ireturn, 1) := by decide +kernel
theorem dJ3_checkIndex_8e157_0 : decode cJ3_checkIndex_8e157 0 = .ok (.iload_n 0, 1) := by decide +kernel
theorem dJ3_checkIndex_8e157_1 : decode cJ3_checkIndex_8e157 1 = .ok (.ifCond .lt 8, 3) := by decide +kernel
theorem dJ3_checkIndex_8e157_4 : decode cJ3_checkIndex_8e157 4 = .ok (.iload_n 0, 1) := by decide +kernel
theorem dJ3_checkIndex_8e157_5 : decode cJ3_checkIndex_8e157 5 = .ok (.iload_n 1, 1) := by decide +kernel
theorem dJ3_checkIndex_8e157_6 : decode cJ3_checkIndex_8e157 6 = .ok (.if_icmp .lt 10, 3) := by decide +kernel
theorem dJ3_checkIndex_8e157_9 : decode cJ3_checkIndex_8e157 9 = .ok (.aload_n 2, 1) := by decide +kernel
theorem dJ3_checkIndex_8e157_10 : decode cJ3_checkIndex_8e157 10 = .ok (.iload_n 0, 1) := by decide +kernel
theorem dJ3_checkIndex_8e157_11 : decode cJ3_checkIndex_8e157 11 = .ok (.iload_n 1, 1) := by decide +kernel
theorem dJ3_checkIndex_8e157_12 : decode cJ3_checkIndex_8e157 12 = .ok (.invokestatic 95, 3) := by decide +kernel
theorem dJ3_checkIndex_8e157_15 : decode cJ3_checkIndex_8e157 15 = .ok (.athrow, 1) := by decide +kernel
theorem dJ3_checkIndex_8e157_16 : decode cJ3_checkIndex_8e157 16 = .ok (.iload_n 0, 1) := by decide +kernel
theorem dJ3_checkIndex_8e157_17 : decode cJ3_checkIndex_8e157 17 = .ok (.ireturn, 1) := by decide +kernel
theorem dJ0_checkIndex_df160_0 : decode cJ0_checkIndex_df160 0 = .ok (.iload_n 0, 1) := by decide +kernel
theorem dJ0_checkIndex_df160_1 : decode cJ0_checkIndex_df160 1 = .ok (.iload_n 1, 1) := by decide +kernel
theorem dJ0_checkIndex_df160_2 : decode cJ0_checkIndex_df160 2 = .ok (.getstatic 1053, 3) := by decide +kernel
theorem dJ0_checkIndex_df160_5 : decode cJ0_checkIndex_df160 5 = .ok (.invokestatic 1059, 3) := by decide +kernel
theorem dJ0_checkIndex_df160_8 : decode cJ0_checkIndex_df160 8 = .ok (.pop, 1) := by decide +kernel
theorem dJ0_checkIndex_df160_9 : decode cJ0_checkIndex_df160 9 = .ok (.return_, 1) := by decide +kernel
theorem dJ1_charAt_3b067_0 : decode cJ1_charAt_3b067 0 = .ok (.iload_n 1, 1) := by decide +kernel
theorem dJ1_charAt_3b067_1 : decode cJ1_charAt_3b067 1 = .ok (.aload_n 0, 1) := by decide +kernel
theorem dJ1_charAt_3b067_2 : decode cJ1_charAt_3b067 2 = .ok (.arraylength, 1) := by decide +kernel
theorem dJ1_charAt_3b067_3 : decode cJ1_charAt_3b067 3 = .ok (.invokestatic 9, 3) := by decide +kernel
theorem dJ1_charAt_3b067_6 : decode cJ1_charAt_3b067 6 = .ok (.aload_n 0, 1) := by decide +kernel
theorem dJ1_charAt_3b067_7 : decode cJ1_charAt_3b067 7 = .ok (.iload_n 1, 1) := by decide +kernel
theorem dJ1_charAt_3b067_8 : decode cJ1_charAt_3b067 8 = .ok (.baload, 1) := by decide +kernel
theorem dJ1_charAt_3b067_9 : decode cJ1_charAt_3b067 9 = .ok (.sipush 255, 3) := by decide +kernel
theorem dJ1_charAt_3b067_12 : decode cJ1_charAt_3b067 12 = .ok (.iand, 1) := by decide +kernel
theorem dJ1_charAt_3b067_13 : decode cJ1_charAt_3b067 13 = .ok (.i2c, 1) := by decide +kernel
theorem dJ1_charAt_3b067_14 : decode cJ1_charAt_3b067 14 = .ok (.ireturn, 1) := by decide +kernel
theorem dJ0_charAt_5068e_0 : decode cJ0_charAt_5068e 0 = .ok (.aload_n 0, 1) := by decide +kernel
theorem dJ0_charAt_5068e_1 : decode cJ0_charAt_5068e 1 = .ok (.invokevirtual 492, 3) := by decide +kernel
theorem dJ0_charAt_5068e_4 : decode cJ0_charAt_5068e 4 = .ok (.ifCond .eq 12, 3) := by decide +kernel
theorem dJ0_charAt_5068e_7 : decode cJ0_charAt_5068e 7 = .ok (.aload_n 0, 1) := by decide +kernel
theorem dJ0_charAt_5068e_8 : decode cJ0_charAt_5068e 8 = .ok (.getfield 9, 3) := by decide +kernel
theorem dJ0_charAt_5068e_11 : decode cJ0_charAt_5068e 11 = .ok (.iload_n 1, 1) := by decide +kernel
theorem dJ0_charAt_5068e_12 : decode cJ0_charAt_5068e 12 = .ok (.invokestatic 495, 3) := by decide +kernel
theorem dJ0_charAt_5068e_15 : decode cJ0_charAt_5068e 15 = .ok (.ireturn, 1) := by decide +kernel
theorem dJ0_charAt_5068e_16 : decode cJ0_charAt_5068e 16 = .ok (.aload_n 0, 1) := by decide +kernel
theorem dJ0_charAt_5068e_17 : decode cJ0_charAt_5068e 17 = .ok (.getfield 9, 3) := by decide +kernel
theorem dJ0_charAt_5068e_20 : decode cJ0_charAt_5068e 20 = .ok (.iload_n 1, 1) := by decide +kernel
theorem dJ0_charAt_5068e_21 : decode cJ0_charAt_5068e 21 = .ok (.invokestatic 498, 3) := by decide +kernel
theorem dJ0_charAt_5068e_24 : decode cJ0_charAt_5068e 24 = .ok (.ireturn, 1) := by decide +kernel
theorem sc_by : ∀ bl ∈ sB, ∀ b ∈ bl, ((b &&& 255).toUInt32 % 65536).toInt32 = b := by decide +kernel
theorem sB_small : ∀ bl ∈ sB, bl.length < 100 := by decide +kernel
theorem sB_sm {j : Nat} (h : j < 64) : (sB.getD j []).length < 100 := sB_small _ (List.mem_of_getElem? (sB_at h))
theorem c_coder {l : Launch} (u : UInt32) (hu : u.toNat < 64) (h : Hp) : Ct l yJ0_coder_7d493 M_J0_coder_7d493 (some .byte) 0 [.float u] h 0 0 (some (.int 0)) h :=
  Ct_of rfl rfl (fun q => by cases q) (Nat.le_of_ble_eq_true rfl) (fun x _ hF => by
    show V M_J0_coder_7d493 x 0 0 [(0, .float u)] [] h 0 0
    refine V_gcs (pc := 0) dJ0_coder_7d493_0 wj_773 ?_
    refine V_if_eq (pc := 3) (tgt := 13) dJ0_coder_7d493_3 (by decide) (fun c => absurd c (by decide)) (fun _ => ?_)
    refine V_saload_n (pc := 6) (i := 0) dJ0_coder_7d493_6 rfl rfl ?_
    refine V_scod (pc := 7) dJ0_coder_7d493_7 wj_1983 hu ?_
    refine V_goto (pc := 10) (tgt := 14) dJ0_coder_7d493_10 (by decide) ?_
    exact V_zret (pc := 14) dJ0_coder_7d493_14 rfl hF)
theorem c_slen {l : Launch} (u : UInt32) (hu : u.toNat < 64) (h : Hp) : Ct l yJ0_length_8abf5 M_J0_length_8abf5 (some .int) 1 [.float u] h 0 0 (some (.int (slen u))) h :=
  Ct_of rfl rfl (fun q => by cases q) (Nat.le_of_ble_eq_true rfl) (fun x _ hF => by
    show V M_J0_length_8abf5 x 1 0 [(0, .float u)] [] h 0 0
    have hv : (UInt32.ofNat (u.toNat + 1000)).toNat = u.toNat + 1000 := UInt32.toNat_ofNat_of_lt' (by show _ < 4294967296; omega)
    refine V_saload_n (pc := 0) (i := 0) dJ0_length_8abf5_0 rfl rfl ?_
    refine V_sval (pc := 1) (v := UInt32.ofNat (u.toNat + 1000)) dJ0_length_8abf5_1 wj_1982 hu hv ?_
    refine V_salen (pc := 4) (j := u.toNat) dJ0_length_8abf5_4 hu hv ?_
    refine V_saload_n (pc := 5) (i := 0) dJ0_length_8abf5_5 rfl rfl ?_
    refine V_callVS (pc := 6) (bc := 0) (bs := 0) (mc := 0) (ms := 0) (As := []) (st := [.int (Int32.ofNat (sB.getD u.toNat []).length)]) (r := some (.int 0)) (h' := h) dJ0_length_8abf5_6 mj_coder rfl hu rfl rfl (Nat.le_of_ble_eq_true rfl) (d' := 0) (by decide) (c_coder u hu h) ?_
    refine V_ishr (pc := 9) dJ0_length_8abf5_9 ?_
    rw [show Int32.ofNat (sB.getD u.toNat []).length >>> ((0 : Int32) &&& 31) = slen u from sb_shr0 _]
    exact V_iret (pc := 10) dJ0_length_8abf5_10 hF)
theorem c_latin {l : Launch} (u : UInt32) (hu : u.toNat < 64) (h : Hp) : Ct l yJ0_isLatin1_aae02 M_J0_isLatin1_aae02 (some .boolean) 0 [.float u] h 0 0 (some (.int 1)) h :=
  Ct_of rfl rfl (fun q => by cases q) (Nat.le_of_ble_eq_true rfl) (fun x _ hF => by
    show V M_J0_isLatin1_aae02 x 0 0 [(0, .float u)] [] h 0 0
    refine V_gcs (pc := 0) dJ0_isLatin1_aae02_0 wj_773 ?_
    refine V_if_eq (pc := 3) (tgt := 17) dJ0_isLatin1_aae02_3 (by decide) (fun c => absurd c (by decide)) (fun _ => ?_)
    refine V_saload_n (pc := 6) (i := 0) dJ0_isLatin1_aae02_6 rfl rfl ?_
    refine V_scod (pc := 7) dJ0_isLatin1_aae02_7 wj_1983 hu ?_
    refine V_if_ne (pc := 10) (tgt := 17) dJ0_isLatin1_aae02_10 (by decide) (fun c => absurd rfl c) (fun _ => ?_)
    refine V_iconst (pc := 13) (v := 1) dJ0_isLatin1_aae02_13 (by decide) ?_
    refine V_goto (pc := 14) (tgt := 18) dJ0_isLatin1_aae02_14 (by decide) ?_
    exact V_zret (pc := 18) dJ0_isLatin1_aae02_18 rfl hF)
theorem c_check3 {l : Launch} (i n : Int32) (v : Value) (hi : ¬ i < 0) (hn : i < n) (hv : v.category = 1) (h : Hp) : Ct l yJ3_checkIndex_8e157 M_J3_checkIndex_8e157 (some .int) 0 [.int i, .int n, v] h 0 0 (some (.int i)) h :=
  Ct_of rfl rfl (fun q => by cases q) (by cases v <;> first | exact Nat.le_of_ble_eq_true rfl | cases hv) (fun x _ hF => by
    have e0 : lv_args 0 [.int i, .int n, v] = [(0, .int i), (1, .int n), (2, v)] := rfl
    rw [e0]
    refine V_iload_n (pc := 0) (i := 0) dJ3_checkIndex_8e157_0 rfl rfl ?_
    refine V_if_lt (pc := 1) (tgt := 9) dJ3_checkIndex_8e157_1 (by decide) (fun c => absurd c hi) (fun _ => ?_)
    refine V_iload_n (pc := 4) (i := 0) dJ3_checkIndex_8e157_4 rfl rfl ?_
    refine V_iload_n (pc := 5) (i := 1) dJ3_checkIndex_8e157_5 rfl rfl ?_
    refine V_icmp_lt (pc := 6) (tgt := 16) dJ3_checkIndex_8e157_6 (by decide) (fun _ => ?_) (fun c => absurd hn c)
    refine V_iload_n (pc := 16) (i := 0) dJ3_checkIndex_8e157_16 rfl rfl ?_
    exact V_iret (pc := 17) dJ3_checkIndex_8e157_17 hF)
theorem c_check {l : Launch} (i n : Int32) (hi : ¬ i < 0) (hn : i < n) (h : Hp) : Ct l yJ0_checkIndex_df160 M_J0_checkIndex_df160 none 1 [.int i, .int n] h 0 0 none h :=
  Ct_of rfl rfl (fun q => by cases q) (Nat.le_of_ble_eq_true rfl) (fun x _ hF => by
    show V M_J0_checkIndex_df160 x 1 0 [(0, .int i), (1, .int n)] [] h 0 0
    refine V_iload_n (pc := 0) (i := 0) dJ0_checkIndex_df160_0 rfl rfl ?_
    refine V_iload_n (pc := 1) (i := 1) dJ0_checkIndex_df160_1 rfl rfl ?_
    refine V_gsi (pc := 2) dJ0_checkIndex_df160_2 wj_789 ?_ ?_
    · refine V_callT (pc := 5) (bc := 0) (bs := 0) (mc := 0) (ms := 0) (As := [.int i, .int n, .float 2000]) (st := []) (r := some (.int i)) (h' := h) dJ0_checkIndex_df160_5 mj_check3 rfl rfl (Nat.le_of_ble_eq_true rfl) (d' := 0) (by decide) (c_check3 i n _ hi hn rfl h) ?_
      refine V_pop (pc := 8) dJ0_checkIndex_df160_8 rfl ?_
      exact V_vret (pc := 9) dJ0_checkIndex_df160_9 hF
    · refine V_callT (pc := 5) (bc := 0) (bs := 0) (mc := 0) (ms := 0) (As := [.int i, .int n, .null]) (st := []) (r := some (.int i)) (h' := h) dJ0_checkIndex_df160_5 mj_check3 rfl rfl (Nat.le_of_ble_eq_true rfl) (d' := 0) (by decide) (c_check3 i n _ hi hn rfl h) ?_
      refine V_pop (pc := 8) dJ0_checkIndex_df160_8 rfl ?_
      exact V_vret (pc := 9) dJ0_checkIndex_df160_9 hF)
theorem vp_lt {i : Int32} {n : Nat} (h : vp_in i n) (hn : n < 2 ^ 31) : ¬ i < 0 ∧ i < Int32.ofNat n := by
  obtain ⟨j, hj, rfl⟩ := vp_in_of h hn
  exact ⟨nI_pos (by omega), nI_lt hj hn⟩
theorem schar_eq {j : Nat} (hj : j < 64) {i : Int32} (hi : vp_in i (sB.getD j []).length) : ((((sB.getD j []).getD i.toNatClampNeg 0) &&& 255).toUInt32 % 65536).toInt32 = (sB.getD j []).getD i.toNatClampNeg 0 := by
  refine sc_by _ (List.mem_of_getElem? (sB_at hj)) _ ?_
  have hl : i.toNatClampNeg < (sB.getD j []).length := Nat.not_le.mp fun q => hi (Or.inr q)
  generalize sB.getD j [] = bl at hl ⊢
  rw [List.getD_eq_getElem?_getD, List.getElem?_eq_getElem hl]
  exact List.getElem_mem hl
theorem c_lchar {l : Launch} (j : Nat) (v : UInt32) (hj : j < 64) (hv : v.toNat = j + 1000) (i : Int32) (hi : vp_in i (sB.getD j []).length) (h : Hp) : Ct l yJ1_charAt_3b067 M_J1_charAt_3b067 (some .char) 2 [.float v, .int i] h 0 0 (some (.int ((sB.getD j []).getD i.toNatClampNeg 0))) h :=
  Ct_of rfl rfl (fun q => by cases q) (Nat.le_of_ble_eq_true rfl) (fun x _ hF => by
    show V M_J1_charAt_3b067 x 2 0 [(0, .float v), (1, .int i)] [] h 0 0
    obtain ⟨i1, i2⟩ := vp_lt hi (by have := sB_sm hj; omega)
    refine V_iload_n (pc := 0) (i := 1) dJ1_charAt_3b067_0 rfl rfl ?_
    refine V_saload_n (pc := 1) (i := 0) dJ1_charAt_3b067_1 rfl rfl ?_
    refine V_salen (pc := 2) (j := j) dJ1_charAt_3b067_2 hj hv ?_
    refine V_callT (pc := 3) (bc := 0) (bs := 0) (mc := 0) (ms := 0) (As := [.int i, .int (Int32.ofNat (sB.getD j []).length)]) (st := []) (r := none) (h' := h) dJ1_charAt_3b067_3 mj_check rfl rfl (Nat.le_of_ble_eq_true rfl) (d' := 1) (by decide) (c_check i _ i1 i2 h) ?_
    refine V_saload_n (pc := 6) (i := 0) dJ1_charAt_3b067_6 rfl rfl ?_
    refine V_iload_n (pc := 7) (i := 1) dJ1_charAt_3b067_7 rfl rfl ?_
    refine V_sbal (pc := 8) (j := j) dJ1_charAt_3b067_8 hj hv hi ?_
    refine V_sipush (pc := 9) (v := 255) dJ1_charAt_3b067_9 (by decide) ?_
    refine V_iand (pc := 12) dJ1_charAt_3b067_12 ?_
    refine V_i2c (pc := 13) dJ1_charAt_3b067_13 ?_
    have hn := pk_nc (((sB.getD j []).getD i.toNatClampNeg 0) &&& 255)
    rw [schar_eq hj hi] at hn ⊢
    exact V_zret (pc := 14) dJ1_charAt_3b067_14 hn hF)
theorem c_schar {l : Launch} (u : UInt32) (hu : u.toNat < 64) (i : Int32) (hi : vp_in i (sB.getD u.toNat []).length) (h : Hp) : Ct l yJ0_charAt_5068e M_J0_charAt_5068e (some .char) 3 [.float u, .int i] h 0 0 (some (.int (schar u i))) h :=
  Ct_of rfl rfl (fun q => by cases q) (Nat.le_of_ble_eq_true rfl) (fun x _ hF => by
    show V M_J0_charAt_5068e x 3 0 [(0, .float u), (1, .int i)] [] h 0 0
    have hv : (UInt32.ofNat (u.toNat + 1000)).toNat = u.toNat + 1000 := UInt32.toNat_ofNat_of_lt' (by show _ < 4294967296; omega)
    refine V_saload_n (pc := 0) (i := 0) dJ0_charAt_5068e_0 rfl rfl ?_
    refine V_callVS (pc := 1) (bc := 0) (bs := 0) (mc := 0) (ms := 0) (As := []) (st := []) (r := some (.int 1)) (h' := h) dJ0_charAt_5068e_1 mj_latin rfl hu rfl rfl (Nat.le_of_ble_eq_true rfl) (d' := 0) (by decide) (c_latin u hu h) ?_
    refine V_if_eq (pc := 4) (tgt := 16) dJ0_charAt_5068e_4 (by decide) (fun c => absurd c (by decide)) (fun _ => ?_)
    refine V_saload_n (pc := 7) (i := 0) dJ0_charAt_5068e_7 rfl rfl ?_
    refine V_sval (pc := 8) (v := UInt32.ofNat (u.toNat + 1000)) dJ0_charAt_5068e_8 wj_1982 hu hv ?_
    refine V_iload_n (pc := 11) (i := 1) dJ0_charAt_5068e_11 rfl rfl ?_
    refine V_callT (pc := 12) (bc := 0) (bs := 0) (mc := 0) (ms := 0) (As := [.float (UInt32.ofNat (u.toNat + 1000)), .int i]) (st := []) (r := some (.int (schar u i))) (h' := h) dJ0_charAt_5068e_12 mj_lchar rfl rfl (Nat.le_of_ble_eq_true rfl) (d' := 2) (by decide) (c_lchar u.toNat _ hu hv i hi h) ?_
    have hn := pk_nc (((sB.getD u.toNat []).getD i.toNatClampNeg 0) &&& 255)
    rw [schar_eq hu hi] at hn
    exact V_zret (pc := 15) dJ0_charAt_5068e_15 hn hF)
section VSTR10
variable {M : MI} {x : Cx} {d pc idx : Nat} {lv : List (Nat × Value)} {st : List Value} {h : Hp} {bc bs : Nat}
theorem V_slen {u : UInt32} (hd : decode M.1 pc = .ok (.invokevirtual idx, 3)) (hm : MLV M.2.2.1 idx yJ0_length_8abf5 M_J0_length_8abf5 (some .int) 0) (hu : u.toNat < 64) (h9 : 2 ≤ d) (hs : (st.map fun v => v.category).sum ≤ 8) (kk : V M x d (pc + 3) lv (.int (slen u) :: st) h bc bs) : V M x d pc lv (.float u :: st) h bc bs :=
  V_callVS (As := []) (mc := 0) (ms := 0) (r := some (.int (slen u))) hd hm rfl hu rfl rfl hs (d' := 1) h9 (c_slen u hu h) kk
theorem V_schar {u : UInt32} {i : Int32} (hd : decode M.1 pc = .ok (.invokevirtual idx, 3)) (hm : MLV M.2.2.1 idx yJ0_charAt_5068e M_J0_charAt_5068e (some .char) 1) (hu : u.toNat < 64) (hi : vp_in i (sB.getD u.toNat []).length) (h9 : 4 ≤ d) (hs : (st.map fun v => v.category).sum ≤ 8) (kk : V M x d (pc + 3) lv (.int (schar u i) :: st) h bc bs) : V M x d pc lv (.int i :: .float u :: st) h bc bs :=
  V_callVS (As := [.int i]) (mc := 0) (ms := 0) (r := some (.int (schar u i))) hd hm rfl hu rfl rfl hs (d' := 3) h9 (c_schar u hu i hi h) kk
end VSTR10

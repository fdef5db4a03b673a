/-! THE LAW'S ENTRY -/
def nwT : Jvm.Cond := Jvm.Cond.and given_1 narrow_1
def sVal (q : String × Nat × String) : Term := .field (.string q.1 q.2.1) "java/lang/String" "value" "[B"
def sWs (q : String × Nat × String) (bl : List Int32) : List Cond := [.exactly (.string q.1 q.2.1) "java/lang/String", .eq (.field (.string q.1 q.2.1) "java/lang/String" "coder" "B") (.int 0), .arrayOf (sVal q) .byte, .eq (.length (sVal q)) (.int (Int32.ofNat bl.length))] ++ (List.range bl.length).map (fun j => .eq (.elem (sVal q) (.int (Int32.ofNat j))) (.int (bl.getD j 0)))
def sOff : List Nat := [71, 77, 83, 91, 100, 106, 115, 122, 131, 139, 148, 157, 165, 174, 182, 189, 198, 208, 216, 221, 226, 233, 242, 251, 260, 267, 273, 294, 316, 333, 349, 365, 382, 407, 438, 456, 480, 499, 527, 553, 570, 581, 605, 615, 625, 632, 642, 650, 661, 671, 681, 691, 700, 710, 719, 727, 737, 746, 752, 758, 766, 776, 784, 791]
theorem s_at0 : ((flatC nwT).drop 71).take 6 = sWs ("PinInn$Book", 37, "at") [97, 116] := by decide +kernel
theorem s_at1 : ((flatC nwT).drop 77).take 6 = sWs ("PinInn$Book", 55, "to") [116, 111] := by decide +kernel
theorem s_at2 : ((flatC nwT).drop 83).take 8 = sWs ("PinInn$HouseText", 37, "room") [114, 111, 111, 109] := by decide +kernel
theorem s_at3 : ((flatC nwT).drop 91).take 9 = sWs ("PinInn$HouseText", 49, "guest") [103, 117, 101, 115, 116] := by decide +kernel
theorem s_at4 : ((flatC nwT).drop 100).take 6 = sWs ("PinInn$HouseText", 69, "in") [105, 110] := by decide +kernel
theorem s_at5 : ((flatC nwT).drop 106).take 9 = sWs ("PinInn$HouseText", 54, "trunk") [116, 114, 117, 110, 107] := by decide +kernel
theorem s_at6 : ((flatC nwT).drop 115).take 6 = sWs ("PinInn$HouseText", 89, "to") [116, 111] := by decide +kernel
theorem s_at7 : ((flatC nwT).drop 122).take 9 = sWs ("PinInn$HouseText", 59, "stove") [115, 116, 111, 118, 101] := by decide +kernel
theorem s_at8 : ((flatC nwT).drop 131).take 8 = sWs ("PinInn$HouseText", 74, "snow") [115, 110, 111, 119] := by decide +kernel
theorem s_at9 : ((flatC nwT).drop 139).take 9 = sWs ("PinInn$HouseText", 76, "bound") [98, 111, 117, 110, 100] := by decide +kernel
theorem s_at10 : ((flatC nwT).drop 148).take 9 = sWs ("PinInn$HouseText", 79, "slide") [115, 108, 105, 100, 101] := by decide +kernel
theorem s_at11 : ((flatC nwT).drop 157).take 8 = sWs ("PinInn$HouseText", 81, "west") [119, 101, 115, 116] := by decide +kernel
theorem s_at12 : ((flatC nwT).drop 165).take 9 = sWs ("PinInn$HouseText", 83, "south") [115, 111, 117, 116, 104] := by decide +kernel
theorem s_at13 : ((flatC nwT).drop 174).take 8 = sWs ("PinInn$Wishes", 31, "want") [119, 97, 110, 116] := by decide +kernel
theorem s_at14 : ((flatC nwT).drop 182).take 7 = sWs ("PinInn$Wishes", 63, "not") [110, 111, 116] := by decide +kernel
theorem s_at15 : ((flatC nwT).drop 189).take 9 = sWs ("PinInn$Wishes", 76, "alone") [97, 108, 111, 110, 101] := by decide +kernel
theorem s_at16 : ((flatC nwT).drop 198).take 9 = sWs ("PinInn$Wishes", 78, "stove") [115, 116, 111, 118, 101] := by decide +kernel
theorem s_at17 : ((flatC nwT).drop 208).take 8 = sWs ("PinInn$Wishes", 80, "with") [119, 105, 116, 104] := by decide +kernel
theorem s_at18 : ((flatC nwT).drop 216).take 5 = sWs ("PinInn$Wishes", 104, "x") [120] := by decide +kernel
theorem s_at19 : ((flatC nwT).drop 221).take 5 = sWs ("PinInn$Wishes", 106, "y") [121] := by decide +kernel
theorem s_at20 : ((flatC nwT).drop 226).take 7 = sWs ("PinInn$Wishes", 108, "far") [102, 97, 114] := by decide +kernel
theorem s_at21 : ((flatC nwT).drop 233).take 9 = sWs ("PinInn$Wishes", 110, "heads") [104, 101, 97, 100, 115] := by decide +kernel
theorem s_at22 : ((flatC nwT).drop 242).take 8 = sWs ("PinInn$Wishes", 112, "snow") [115, 110, 111, 119] := by decide +kernel
theorem s_at23 : ((flatC nwT).drop 251).take 8 = sWs ("PinInn$Wishes", 114, "room") [114, 111, 111, 109] := by decide +kernel
theorem s_at24 : ((flatC nwT).drop 260).take 7 = sWs ("PinInn$Wishes", 61, "and") [97, 110, 100] := by decide +kernel
theorem s_at25 : ((flatC nwT).drop 267).take 6 = sWs ("PinInn$Wishes", 50, "or") [111, 114] := by decide +kernel
theorem s_at26 : ((flatC nwT).drop 273).take 21 = sWs ("PinInn", 93, "the text is wrong") [116, 104, 101, 32, 116, 101, 120, 116, 32, 105, 115, 32, 119, 114, 111, 110, 103] := by decide +kernel
theorem s_at27 : ((flatC nwT).drop 294).take 22 = sWs ("PinInn", 103, "there are 10 texts") [116, 104, 101, 114, 101, 32, 97, 114, 101, 32, 49, 48, 32, 116, 101, 120, 116, 115] := by decide +kernel
theorem s_at28 : ((flatC nwT).drop 316).take 17 = sWs ("PinInn", 115, "no such guest") [110, 111, 32, 115, 117, 99, 104, 32, 103, 117, 101, 115, 116] := by decide +kernel
theorem s_at29 : ((flatC nwT).drop 333).take 16 = sWs ("PinInn", 147, "no such room") [110, 111, 32, 115, 117, 99, 104, 32, 114, 111, 111, 109] := by decide +kernel
theorem s_at30 : ((flatC nwT).drop 349).take 16 = sWs ("PinInn", 184, "no such what") [110, 111, 32, 115, 117, 99, 104, 32, 119, 104, 97, 116] := by decide +kernel
theorem s_at31 : ((flatC nwT).drop 365).take 17 = sWs ("PinInn", 190, "no such trunk") [110, 111, 32, 115, 117, 99, 104, 32, 116, 114, 117, 110, 107] := by decide +kernel
theorem s_at32 : ((flatC nwT).drop 382).take 25 = sWs ("PinInn", 201, "no such guest or room") [110, 111, 32, 115, 117, 99, 104, 32, 103, 117, 101, 115, 116, 32, 111, 114, 32, 114, 111, 111, 109] := by decide +kernel
theorem s_at33 : ((flatC nwT).drop 407).take 31 = sWs ("PinInn", 263, "no seating, or no such bell") [110, 111, 32, 115, 101, 97, 116, 105, 110, 103, 44, 32, 111, 114, 32, 110, 111, 32, 115, 117, 99, 104, 32, 98, 101, 108, 108] := by decide +kernel
theorem s_at34 : ((flatC nwT).drop 438).take 18 = sWs ("PinInn", 302, "no such weight") [110, 111, 32, 115, 117, 99, 104, 32, 119, 101, 105, 103, 104, 116] := by decide +kernel
theorem s_at35 : ((flatC nwT).drop 456).take 24 = sWs ("PinInn", 324, "there are 8 readings") [116, 104, 101, 114, 101, 32, 97, 114, 101, 32, 56, 32, 114, 101, 97, 100, 105, 110, 103, 115] := by decide +kernel
theorem s_at36 : ((flatC nwT).drop 480).take 19 = sWs ("PinInn", 335, "no such reading") [110, 111, 32, 115, 117, 99, 104, 32, 114, 101, 97, 100, 105, 110, 103] := by decide +kernel
theorem s_at37 : ((flatC nwT).drop 499).take 28 = sWs ("PinInn", 341, "no such reading or guest") [110, 111, 32, 115, 117, 99, 104, 32, 114, 101, 97, 100, 105, 110, 103, 32, 111, 114, 32, 103, 117, 101, 115, 116] := by decide +kernel
theorem s_at38 : ((flatC nwT).drop 527).take 26 = sWs ("PinInn", 350, "not from least to most") [110, 111, 116, 32, 102, 114, 111, 109, 32, 108, 101, 97, 115, 116, 32, 116, 111, 32, 109, 111, 115, 116] := by decide +kernel
theorem s_at39 : ((flatC nwT).drop 553).take 17 = sWs ("PinInn", 352, "no such night") [110, 111, 32, 115, 117, 99, 104, 32, 110, 105, 103, 104, 116] := by decide +kernel
theorem s_at40 : ((flatC nwT).drop 570).take 11 = sWs ("PinInn", 365, "below 0") [98, 101, 108, 111, 119, 32, 48] := by decide +kernel
theorem s_at41 : ((flatC nwT).drop 581).take 24 = sWs ("PinInn", 367, "no such base or rate") [110, 111, 32, 115, 117, 99, 104, 32, 98, 97, 115, 101, 32, 111, 114, 32, 114, 97, 116, 101] := by decide +kernel
theorem s_at42 : ((flatC nwT).drop 605).take 8 = sWs ("PinInnModel", 134, "room") [114, 111, 111, 109] := by decide +kernel
theorem s_at43 : ((flatC nwT).drop 615).take 9 = sWs ("PinInnModel", 140, "guest") [103, 117, 101, 115, 116] := by decide +kernel
theorem s_at44 : ((flatC nwT).drop 625).take 6 = sWs ("PinInnModel", 122, "in") [105, 110] := by decide +kernel
theorem s_at45 : ((flatC nwT).drop 632).take 9 = sWs ("PinInnModel", 145, "trunk") [116, 114, 117, 110, 107] := by decide +kernel
theorem s_at46 : ((flatC nwT).drop 642).take 6 = sWs ("PinInnModel", 129, "to") [116, 111] := by decide +kernel
theorem s_at47 : ((flatC nwT).drop 650).take 9 = sWs ("PinInnModel", 150, "stove") [115, 116, 111, 118, 101] := by decide +kernel
theorem s_at48 : ((flatC nwT).drop 661).take 8 = sWs ("PinInnModel", 155, "snow") [115, 110, 111, 119] := by decide +kernel
theorem s_at49 : ((flatC nwT).drop 671).take 9 = sWs ("PinInnModel", 160, "bound") [98, 111, 117, 110, 100] := by decide +kernel
theorem s_at50 : ((flatC nwT).drop 681).take 9 = sWs ("PinInnModel", 163, "slide") [115, 108, 105, 100, 101] := by decide +kernel
theorem s_at51 : ((flatC nwT).drop 691).take 8 = sWs ("PinInnModel", 165, "west") [119, 101, 115, 116] := by decide +kernel
theorem s_at52 : ((flatC nwT).drop 700).take 9 = sWs ("PinInnModel", 167, "south") [115, 111, 117, 116, 104] := by decide +kernel
theorem s_at53 : ((flatC nwT).drop 710).take 8 = sWs ("PinInnModel", 221, "want") [119, 97, 110, 116] := by decide +kernel
theorem s_at54 : ((flatC nwT).drop 719).take 7 = sWs ("PinInnModel", 199, "not") [110, 111, 116] := by decide +kernel
theorem s_at55 : ((flatC nwT).drop 727).take 9 = sWs ("PinInnModel", 207, "alone") [97, 108, 111, 110, 101] := by decide +kernel
theorem s_at56 : ((flatC nwT).drop 737).take 8 = sWs ("PinInnModel", 209, "with") [119, 105, 116, 104] := by decide +kernel
theorem s_at57 : ((flatC nwT).drop 746).take 5 = sWs ("PinInnModel", 180, "x") [120] := by decide +kernel
theorem s_at58 : ((flatC nwT).drop 752).take 5 = sWs ("PinInnModel", 182, "y") [121] := by decide +kernel
theorem s_at59 : ((flatC nwT).drop 758).take 7 = sWs ("PinInnModel", 184, "far") [102, 97, 114] := by decide +kernel
theorem s_at60 : ((flatC nwT).drop 766).take 9 = sWs ("PinInnModel", 185, "heads") [104, 101, 97, 100, 115] := by decide +kernel
theorem s_at61 : ((flatC nwT).drop 776).take 7 = sWs ("PinInnModel", 214, "and") [97, 110, 100] := by decide +kernel
theorem s_at62 : ((flatC nwT).drop 784).take 6 = sWs ("PinInnModel", 219, "or") [111, 114] := by decide +kernel
theorem s_at63 : ((flatC nwT).drop 791).take 6 = sWs ("PinInnModel", 223, "at") [97, 116] := by decide +kernel
theorem s_in {o n : Nat} {q : String × Nat × String} {bl : List Int32} (h : ((flatC nwT).drop o).take n = sWs q bl) : ∀ w ∈ sWs q bl, w ∈ flatC nwT := fun w hw => by
  rw [← h] at hw
  exact List.mem_of_mem_drop (List.mem_of_mem_take hw)
section START
variable {args : Array Value} {s : State}
def strAt (s : State) (q : String × Nat × String) (bl : List Int32) (z : Nat × Nat) : Prop := vk_R q.1 q.2.1 q.2.2 z.1 s ∧ va_O "java/lang/String" z.1 (fun q => s.heap.size ≤ q) s s.heap ∧ va_OF "java/lang/String" "coder" "B" (.int 0) z.1 (fun q => s.heap.size ≤ q) s s.heap ∧ va_OF "java/lang/String" "value" "[B" (.ref z.2) z.1 (fun q => s.heap.size ≤ q) s s.heap ∧ va_T .byte z.2 bl.length (fun i => .int (bl.getD i 0)) (fun q => s.heap.size ≤ q) s s.heap
theorem str_of {q : String × Nat × String} {bl : List Int32} (hN : bl.length < 2 ^ 31) (hr : (Cond.stringRef q.1 q.2.1 q.2.2).before args s = true) (hw : ∀ w ∈ sWs q bl, w.before args s = true) : ∃ z : Nat × Nat, strAt s q bl z := by
  have hA : ∀ a : Nat, a < s.heap.size → ¬ (fun q => s.heap.size ≤ q) a := fun a ha h => Nat.not_le.mpr ha h
  have w1 : (Cond.exactly (.string q.1 q.2.1) "java/lang/String").before args s = true := hw _ (List.mem_append_left _ (List.mem_of_getElem? (i := 0) rfl))
  have w2 : (Cond.eq (.field (.string q.1 q.2.1) "java/lang/String" "coder" "B") (.int 0)).before args s = true := hw _ (List.mem_append_left _ (List.mem_of_getElem? (i := 1) rfl))
  have w3 : (Cond.arrayOf (sVal q) .byte).before args s = true := hw _ (List.mem_append_left _ (List.mem_of_getElem? (i := 2) rfl))
  have w4 : (Cond.eq (.length (sVal q)) (.int (Int32.ofNat bl.length))).before args s = true := hw _ (List.mem_append_left _ (List.mem_of_getElem? (i := 3) rfl))
  have w5 : ∀ j : Nat, j < bl.length → (Cond.eq (.elem (sVal q) (.int (Int32.ofNat j))) (.int (bl.getD j 0))).before args s = true := fun j hj => hw _ (List.mem_append_right _ (List.mem_map.mpr ⟨j, List.mem_range.mpr hj, rfl⟩))
  obtain ⟨a, c, cA, kA, q1, q2, q3, q4, q5, q6, -⟩ := Cond.exactly_spec (args := args) (first := s) (o := none) (s := s) (idx := []) (t := .string q.1 q.2.1) (cls := "java/lang/String") w1
  obtain ⟨t, ht, hT⟩ := va_Tof (f := fun j => .int (bl.getD j 0)) (A := fun q => s.heap.size ≤ q) hN w3 (va_eqt w4) (fun j hj => va_eqt (w5 j hj)) hA
  exact ⟨(a, t), vk_R.of hr q1, ⟨cA, q3, q5, by rw [q6]; exact q2, hA a (Array.getElem?_eq_some_iff.mp q3).1⟩, vk_OFof q1 (va_eqt w2) hA, vk_OFof q1 ht hA, hT⟩
theorem strs (hts : ∀ w ∈ lw_tbl, w.before args s = true) (hnw : ∀ w ∈ flatC nwT, w.before args s = true) : ∀ j : Nat, ∃ z : Nat × Nat, ∀ q bl, kS[j]? = some q → sB[j]? = some bl → strAt s q bl z
  | 0 => by
    obtain ⟨z, hz⟩ := str_of (args := args) (s := s) (q := ("PinInn$Book", 37, "at")) (bl := [97, 116]) (by decide) (hts _ (List.mem_append_right _ (List.mem_append_right _ (List.mem_append_right _ (List.mem_append_left _ (List.mem_of_getElem? (i := 173) rfl)))))) (fun w hw => hnw w (s_in s_at0 w hw))
    exact ⟨z, fun q bl h1 h2 => by cases h1; cases h2; exact hz⟩
  | 1 => by
    obtain ⟨z, hz⟩ := str_of (args := args) (s := s) (q := ("PinInn$Book", 55, "to")) (bl := [116, 111]) (by decide) (hts _ (List.mem_append_right _ (List.mem_append_right _ (List.mem_append_right _ (List.mem_append_left _ (List.mem_of_getElem? (i := 235) rfl)))))) (fun w hw => hnw w (s_in s_at1 w hw))
    exact ⟨z, fun q bl h1 h2 => by cases h1; cases h2; exact hz⟩
  | 2 => by
    obtain ⟨z, hz⟩ := str_of (args := args) (s := s) (q := ("PinInn$HouseText", 37, "room")) (bl := [114, 111, 111, 109]) (by decide) (hts _ (List.mem_append_right _ (List.mem_append_right _ (List.mem_append_right _ (List.mem_append_left _ (List.mem_of_getElem? (i := 239) rfl)))))) (fun w hw => hnw w (s_in s_at2 w hw))
    exact ⟨z, fun q bl h1 h2 => by cases h1; cases h2; exact hz⟩
  | 3 => by
    obtain ⟨z, hz⟩ := str_of (args := args) (s := s) (q := ("PinInn$HouseText", 49, "guest")) (bl := [103, 117, 101, 115, 116]) (by decide) (hts _ (List.mem_append_right _ (List.mem_append_right _ (List.mem_append_right _ (List.mem_append_right _ (List.mem_append_left _ (List.mem_of_getElem? (i := 20) rfl))))))) (fun w hw => hnw w (s_in s_at3 w hw))
    exact ⟨z, fun q bl h1 h2 => by cases h1; cases h2; exact hz⟩
  | 4 => by
    obtain ⟨z, hz⟩ := str_of (args := args) (s := s) (q := ("PinInn$HouseText", 69, "in")) (bl := [105, 110]) (by decide) (hts _ (List.mem_append_right _ (List.mem_append_right _ (List.mem_append_right _ (List.mem_append_right _ (List.mem_append_left _ (List.mem_of_getElem? (i := 25) rfl))))))) (fun w hw => hnw w (s_in s_at4 w hw))
    exact ⟨z, fun q bl h1 h2 => by cases h1; cases h2; exact hz⟩
  | 5 => by
    obtain ⟨z, hz⟩ := str_of (args := args) (s := s) (q := ("PinInn$HouseText", 54, "trunk")) (bl := [116, 114, 117, 110, 107]) (by decide) (hts _ (List.mem_append_right _ (List.mem_append_right _ (List.mem_append_right _ (List.mem_append_right _ (List.mem_append_left _ (List.mem_of_getElem? (i := 27) rfl))))))) (fun w hw => hnw w (s_in s_at5 w hw))
    exact ⟨z, fun q bl h1 h2 => by cases h1; cases h2; exact hz⟩
  | 6 => by
    obtain ⟨z, hz⟩ := str_of (args := args) (s := s) (q := ("PinInn$HouseText", 89, "to")) (bl := [116, 111]) (by decide) (hts _ (List.mem_append_right _ (List.mem_append_right _ (List.mem_append_right _ (List.mem_append_right _ (List.mem_append_left _ (List.mem_of_getElem? (i := 32) rfl))))))) (fun w hw => hnw w (s_in s_at6 w hw))
    exact ⟨z, fun q bl h1 h2 => by cases h1; cases h2; exact hz⟩
  | 7 => by
    obtain ⟨z, hz⟩ := str_of (args := args) (s := s) (q := ("PinInn$HouseText", 59, "stove")) (bl := [115, 116, 111, 118, 101]) (by decide) (hts _ (List.mem_append_right _ (List.mem_append_right _ (List.mem_append_right _ (List.mem_append_right _ (List.mem_append_left _ (List.mem_of_getElem? (i := 33) rfl))))))) (fun w hw => hnw w (s_in s_at7 w hw))
    exact ⟨z, fun q bl h1 h2 => by cases h1; cases h2; exact hz⟩
  | 8 => by
    obtain ⟨z, hz⟩ := str_of (args := args) (s := s) (q := ("PinInn$HouseText", 74, "snow")) (bl := [115, 110, 111, 119]) (by decide) (hts _ (List.mem_append_right _ (List.mem_append_right _ (List.mem_append_right _ (List.mem_append_right _ (List.mem_append_left _ (List.mem_of_getElem? (i := 34) rfl))))))) (fun w hw => hnw w (s_in s_at8 w hw))
    exact ⟨z, fun q bl h1 h2 => by cases h1; cases h2; exact hz⟩
  | 9 => by
    obtain ⟨z, hz⟩ := str_of (args := args) (s := s) (q := ("PinInn$HouseText", 76, "bound")) (bl := [98, 111, 117, 110, 100]) (by decide) (hts _ (List.mem_append_right _ (List.mem_append_right _ (List.mem_append_right _ (List.mem_append_right _ (List.mem_append_left _ (List.mem_of_getElem? (i := 35) rfl))))))) (fun w hw => hnw w (s_in s_at9 w hw))
    exact ⟨z, fun q bl h1 h2 => by cases h1; cases h2; exact hz⟩
  | 10 => by
    obtain ⟨z, hz⟩ := str_of (args := args) (s := s) (q := ("PinInn$HouseText", 79, "slide")) (bl := [115, 108, 105, 100, 101]) (by decide) (hts _ (List.mem_append_right _ (List.mem_append_right _ (List.mem_append_right _ (List.mem_append_right _ (List.mem_append_left _ (List.mem_of_getElem? (i := 37) rfl))))))) (fun w hw => hnw w (s_in s_at10 w hw))
    exact ⟨z, fun q bl h1 h2 => by cases h1; cases h2; exact hz⟩
  | 11 => by
    obtain ⟨z, hz⟩ := str_of (args := args) (s := s) (q := ("PinInn$HouseText", 81, "west")) (bl := [119, 101, 115, 116]) (by decide) (hts _ (List.mem_append_right _ (List.mem_append_right _ (List.mem_append_right _ (List.mem_append_right _ (List.mem_append_left _ (List.mem_of_getElem? (i := 38) rfl))))))) (fun w hw => hnw w (s_in s_at11 w hw))
    exact ⟨z, fun q bl h1 h2 => by cases h1; cases h2; exact hz⟩
  | 12 => by
    obtain ⟨z, hz⟩ := str_of (args := args) (s := s) (q := ("PinInn$HouseText", 83, "south")) (bl := [115, 111, 117, 116, 104]) (by decide) (hts _ (List.mem_append_right _ (List.mem_append_right _ (List.mem_append_right _ (List.mem_append_right _ (List.mem_append_left _ (List.mem_of_getElem? (i := 39) rfl))))))) (fun w hw => hnw w (s_in s_at12 w hw))
    exact ⟨z, fun q bl h1 h2 => by cases h1; cases h2; exact hz⟩
  | 13 => by
    obtain ⟨z, hz⟩ := str_of (args := args) (s := s) (q := ("PinInn$Wishes", 31, "want")) (bl := [119, 97, 110, 116]) (by decide) (hts _ (List.mem_append_right _ (List.mem_append_right _ (List.mem_append_right _ (List.mem_append_right _ (List.mem_append_left _ (List.mem_of_getElem? (i := 43) rfl))))))) (fun w hw => hnw w (s_in s_at13 w hw))
    exact ⟨z, fun q bl h1 h2 => by cases h1; cases h2; exact hz⟩
  | 14 => by
    obtain ⟨z, hz⟩ := str_of (args := args) (s := s) (q := ("PinInn$Wishes", 63, "not")) (bl := [110, 111, 116]) (by decide) (hts _ (List.mem_append_right _ (List.mem_append_right _ (List.mem_append_right _ (List.mem_append_right _ (List.mem_append_left _ (List.mem_of_getElem? (i := 57) rfl))))))) (fun w hw => hnw w (s_in s_at14 w hw))
    exact ⟨z, fun q bl h1 h2 => by cases h1; cases h2; exact hz⟩
  | 15 => by
    obtain ⟨z, hz⟩ := str_of (args := args) (s := s) (q := ("PinInn$Wishes", 76, "alone")) (bl := [97, 108, 111, 110, 101]) (by decide) (hts _ (List.mem_append_right _ (List.mem_append_right _ (List.mem_append_right _ (List.mem_append_right _ (List.mem_append_left _ (List.mem_of_getElem? (i := 78) rfl))))))) (fun w hw => hnw w (s_in s_at15 w hw))
    exact ⟨z, fun q bl h1 h2 => by cases h1; cases h2; exact hz⟩
  | 16 => by
    obtain ⟨z, hz⟩ := str_of (args := args) (s := s) (q := ("PinInn$Wishes", 78, "stove")) (bl := [115, 116, 111, 118, 101]) (by decide) (hts _ (List.mem_append_right _ (List.mem_append_right _ (List.mem_append_right _ (List.mem_append_right _ (List.mem_append_left _ (List.mem_of_getElem? (i := 79) rfl))))))) (fun w hw => hnw w (s_in s_at16 w hw))
    exact ⟨z, fun q bl h1 h2 => by cases h1; cases h2; exact hz⟩
  | 17 => by
    obtain ⟨z, hz⟩ := str_of (args := args) (s := s) (q := ("PinInn$Wishes", 80, "with")) (bl := [119, 105, 116, 104]) (by decide) (hts _ (List.mem_append_right _ (List.mem_append_right _ (List.mem_append_right _ (List.mem_append_right _ (List.mem_append_left _ (List.mem_of_getElem? (i := 80) rfl))))))) (fun w hw => hnw w (s_in s_at17 w hw))
    exact ⟨z, fun q bl h1 h2 => by cases h1; cases h2; exact hz⟩
  | 18 => by
    obtain ⟨z, hz⟩ := str_of (args := args) (s := s) (q := ("PinInn$Wishes", 104, "x")) (bl := [120]) (by decide) (hts _ (List.mem_append_right _ (List.mem_append_right _ (List.mem_append_right _ (List.mem_append_right _ (List.mem_append_left _ (List.mem_of_getElem? (i := 93) rfl))))))) (fun w hw => hnw w (s_in s_at18 w hw))
    exact ⟨z, fun q bl h1 h2 => by cases h1; cases h2; exact hz⟩
  | 19 => by
    obtain ⟨z, hz⟩ := str_of (args := args) (s := s) (q := ("PinInn$Wishes", 106, "y")) (bl := [121]) (by decide) (hts _ (List.mem_append_right _ (List.mem_append_right _ (List.mem_append_right _ (List.mem_append_right _ (List.mem_append_left _ (List.mem_of_getElem? (i := 94) rfl))))))) (fun w hw => hnw w (s_in s_at19 w hw))
    exact ⟨z, fun q bl h1 h2 => by cases h1; cases h2; exact hz⟩
  | 20 => by
    obtain ⟨z, hz⟩ := str_of (args := args) (s := s) (q := ("PinInn$Wishes", 108, "far")) (bl := [102, 97, 114]) (by decide) (hts _ (List.mem_append_right _ (List.mem_append_right _ (List.mem_append_right _ (List.mem_append_right _ (List.mem_append_left _ (List.mem_of_getElem? (i := 95) rfl))))))) (fun w hw => hnw w (s_in s_at20 w hw))
    exact ⟨z, fun q bl h1 h2 => by cases h1; cases h2; exact hz⟩
  | 21 => by
    obtain ⟨z, hz⟩ := str_of (args := args) (s := s) (q := ("PinInn$Wishes", 110, "heads")) (bl := [104, 101, 97, 100, 115]) (by decide) (hts _ (List.mem_append_right _ (List.mem_append_right _ (List.mem_append_right _ (List.mem_append_right _ (List.mem_append_left _ (List.mem_of_getElem? (i := 96) rfl))))))) (fun w hw => hnw w (s_in s_at21 w hw))
    exact ⟨z, fun q bl h1 h2 => by cases h1; cases h2; exact hz⟩
  | 22 => by
    obtain ⟨z, hz⟩ := str_of (args := args) (s := s) (q := ("PinInn$Wishes", 112, "snow")) (bl := [115, 110, 111, 119]) (by decide) (hts _ (List.mem_append_right _ (List.mem_append_right _ (List.mem_append_right _ (List.mem_append_right _ (List.mem_append_left _ (List.mem_of_getElem? (i := 97) rfl))))))) (fun w hw => hnw w (s_in s_at22 w hw))
    exact ⟨z, fun q bl h1 h2 => by cases h1; cases h2; exact hz⟩
  | 23 => by
    obtain ⟨z, hz⟩ := str_of (args := args) (s := s) (q := ("PinInn$Wishes", 114, "room")) (bl := [114, 111, 111, 109]) (by decide) (hts _ (List.mem_append_right _ (List.mem_append_right _ (List.mem_append_right _ (List.mem_append_right _ (List.mem_append_left _ (List.mem_of_getElem? (i := 98) rfl))))))) (fun w hw => hnw w (s_in s_at23 w hw))
    exact ⟨z, fun q bl h1 h2 => by cases h1; cases h2; exact hz⟩
  | 24 => by
    obtain ⟨z, hz⟩ := str_of (args := args) (s := s) (q := ("PinInn$Wishes", 61, "and")) (bl := [97, 110, 100]) (by decide) (hts _ (List.mem_append_right _ (List.mem_append_right _ (List.mem_append_right _ (List.mem_append_right _ (List.mem_append_left _ (List.mem_of_getElem? (i := 100) rfl))))))) (fun w hw => hnw w (s_in s_at24 w hw))
    exact ⟨z, fun q bl h1 h2 => by cases h1; cases h2; exact hz⟩
  | 25 => by
    obtain ⟨z, hz⟩ := str_of (args := args) (s := s) (q := ("PinInn$Wishes", 50, "or")) (bl := [111, 114]) (by decide) (hts _ (List.mem_append_right _ (List.mem_append_right _ (List.mem_append_right _ (List.mem_append_right _ (List.mem_append_left _ (List.mem_of_getElem? (i := 101) rfl))))))) (fun w hw => hnw w (s_in s_at25 w hw))
    exact ⟨z, fun q bl h1 h2 => by cases h1; cases h2; exact hz⟩
  | 26 => by
    obtain ⟨z, hz⟩ := str_of (args := args) (s := s) (q := ("PinInn", 93, "the text is wrong")) (bl := [116, 104, 101, 32, 116, 101, 120, 116, 32, 105, 115, 32, 119, 114, 111, 110, 103]) (by decide) (hts _ (List.mem_append_right _ (List.mem_append_right _ (List.mem_append_right _ (List.mem_append_right _ (List.mem_append_left _ (List.mem_of_getElem? (i := 146) rfl))))))) (fun w hw => hnw w (s_in s_at26 w hw))
    exact ⟨z, fun q bl h1 h2 => by cases h1; cases h2; exact hz⟩
  | 27 => by
    obtain ⟨z, hz⟩ := str_of (args := args) (s := s) (q := ("PinInn", 103, "there are 10 texts")) (bl := [116, 104, 101, 114, 101, 32, 97, 114, 101, 32, 49, 48, 32, 116, 101, 120, 116, 115]) (by decide) (hts _ (List.mem_append_right _ (List.mem_append_right _ (List.mem_append_right _ (List.mem_append_right _ (List.mem_append_left _ (List.mem_of_getElem? (i := 181) rfl))))))) (fun w hw => hnw w (s_in s_at27 w hw))
    exact ⟨z, fun q bl h1 h2 => by cases h1; cases h2; exact hz⟩
  | 28 => by
    obtain ⟨z, hz⟩ := str_of (args := args) (s := s) (q := ("PinInn", 115, "no such guest")) (bl := [110, 111, 32, 115, 117, 99, 104, 32, 103, 117, 101, 115, 116]) (by decide) (hts _ (List.mem_append_right _ (List.mem_append_right _ (List.mem_append_right _ (List.mem_append_right _ (List.mem_append_left _ (List.mem_of_getElem? (i := 228) rfl))))))) (fun w hw => hnw w (s_in s_at28 w hw))
    exact ⟨z, fun q bl h1 h2 => by cases h1; cases h2; exact hz⟩
  | 29 => by
    obtain ⟨z, hz⟩ := str_of (args := args) (s := s) (q := ("PinInn", 147, "no such room")) (bl := [110, 111, 32, 115, 117, 99, 104, 32, 114, 111, 111, 109]) (by decide) (hts _ (List.mem_append_right _ (List.mem_append_right _ (List.mem_append_right _ (List.mem_append_right _ (List.mem_append_right _ (List.mem_append_left _ (List.mem_of_getElem? (i := 22) rfl)))))))) (fun w hw => hnw w (s_in s_at29 w hw))
    exact ⟨z, fun q bl h1 h2 => by cases h1; cases h2; exact hz⟩
  | 30 => by
    obtain ⟨z, hz⟩ := str_of (args := args) (s := s) (q := ("PinInn", 184, "no such what")) (bl := [110, 111, 32, 115, 117, 99, 104, 32, 119, 104, 97, 116]) (by decide) (hts _ (List.mem_append_right _ (List.mem_append_right _ (List.mem_append_right _ (List.mem_append_right _ (List.mem_append_right _ (List.mem_append_left _ (List.mem_of_getElem? (i := 47) rfl)))))))) (fun w hw => hnw w (s_in s_at30 w hw))
    exact ⟨z, fun q bl h1 h2 => by cases h1; cases h2; exact hz⟩
  | 31 => by
    obtain ⟨z, hz⟩ := str_of (args := args) (s := s) (q := ("PinInn", 190, "no such trunk")) (bl := [110, 111, 32, 115, 117, 99, 104, 32, 116, 114, 117, 110, 107]) (by decide) (hts _ (List.mem_append_right _ (List.mem_append_right _ (List.mem_append_right _ (List.mem_append_right _ (List.mem_append_right _ (List.mem_append_left _ (List.mem_of_getElem? (i := 72) rfl)))))))) (fun w hw => hnw w (s_in s_at31 w hw))
    exact ⟨z, fun q bl h1 h2 => by cases h1; cases h2; exact hz⟩
  | 32 => by
    obtain ⟨z, hz⟩ := str_of (args := args) (s := s) (q := ("PinInn", 201, "no such guest or room")) (bl := [110, 111, 32, 115, 117, 99, 104, 32, 103, 117, 101, 115, 116, 32, 111, 114, 32, 114, 111, 111, 109]) (by decide) (hts _ (List.mem_append_right _ (List.mem_append_right _ (List.mem_append_right _ (List.mem_append_right _ (List.mem_append_right _ (List.mem_append_left _ (List.mem_of_getElem? (i := 80) rfl)))))))) (fun w hw => hnw w (s_in s_at32 w hw))
    exact ⟨z, fun q bl h1 h2 => by cases h1; cases h2; exact hz⟩
  | 33 => by
    obtain ⟨z, hz⟩ := str_of (args := args) (s := s) (q := ("PinInn", 263, "no seating, or no such bell")) (bl := [110, 111, 32, 115, 101, 97, 116, 105, 110, 103, 44, 32, 111, 114, 32, 110, 111, 32, 115, 117, 99, 104, 32, 98, 101, 108, 108]) (by decide) (hts _ (List.mem_append_right _ (List.mem_append_right _ (List.mem_append_right _ (List.mem_append_right _ (List.mem_append_right _ (List.mem_append_left _ (List.mem_of_getElem? (i := 166) rfl)))))))) (fun w hw => hnw w (s_in s_at33 w hw))
    exact ⟨z, fun q bl h1 h2 => by cases h1; cases h2; exact hz⟩
  | 34 => by
    obtain ⟨z, hz⟩ := str_of (args := args) (s := s) (q := ("PinInn", 302, "no such weight")) (bl := [110, 111, 32, 115, 117, 99, 104, 32, 119, 101, 105, 103, 104, 116]) (by decide) (hts _ (List.mem_append_right _ (List.mem_append_right _ (List.mem_append_right _ (List.mem_append_right _ (List.mem_append_right _ (List.mem_append_left _ (List.mem_of_getElem? (i := 230) rfl)))))))) (fun w hw => hnw w (s_in s_at34 w hw))
    exact ⟨z, fun q bl h1 h2 => by cases h1; cases h2; exact hz⟩
  | 35 => by
    obtain ⟨z, hz⟩ := str_of (args := args) (s := s) (q := ("PinInn", 324, "there are 8 readings")) (bl := [116, 104, 101, 114, 101, 32, 97, 114, 101, 32, 56, 32, 114, 101, 97, 100, 105, 110, 103, 115]) (by decide) (hts _ (List.mem_append_right _ (List.mem_append_right _ (List.mem_append_right _ (List.mem_append_right _ (List.mem_append_right _ (List.mem_append_right _ (List.mem_append_left _ (List.mem_of_getElem? (i := 2) rfl))))))))) (fun w hw => hnw w (s_in s_at35 w hw))
    exact ⟨z, fun q bl h1 h2 => by cases h1; cases h2; exact hz⟩
  | 36 => by
    obtain ⟨z, hz⟩ := str_of (args := args) (s := s) (q := ("PinInn", 335, "no such reading")) (bl := [110, 111, 32, 115, 117, 99, 104, 32, 114, 101, 97, 100, 105, 110, 103]) (by decide) (hts _ (List.mem_append_right _ (List.mem_append_right _ (List.mem_append_right _ (List.mem_append_right _ (List.mem_append_right _ (List.mem_append_right _ (List.mem_append_left _ (List.mem_of_getElem? (i := 14) rfl))))))))) (fun w hw => hnw w (s_in s_at36 w hw))
    exact ⟨z, fun q bl h1 h2 => by cases h1; cases h2; exact hz⟩
  | 37 => by
    obtain ⟨z, hz⟩ := str_of (args := args) (s := s) (q := ("PinInn", 341, "no such reading or guest")) (bl := [110, 111, 32, 115, 117, 99, 104, 32, 114, 101, 97, 100, 105, 110, 103, 32, 111, 114, 32, 103, 117, 101, 115, 116]) (by decide) (hts _ (List.mem_append_right _ (List.mem_append_right _ (List.mem_append_right _ (List.mem_append_right _ (List.mem_append_right _ (List.mem_append_right _ (List.mem_append_left _ (List.mem_of_getElem? (i := 26) rfl))))))))) (fun w hw => hnw w (s_in s_at37 w hw))
    exact ⟨z, fun q bl h1 h2 => by cases h1; cases h2; exact hz⟩
  | 38 => by
    obtain ⟨z, hz⟩ := str_of (args := args) (s := s) (q := ("PinInn", 350, "not from least to most")) (bl := [110, 111, 116, 32, 102, 114, 111, 109, 32, 108, 101, 97, 115, 116, 32, 116, 111, 32, 109, 111, 115, 116]) (by decide) (hts _ (List.mem_append_right _ (List.mem_append_right _ (List.mem_append_right _ (List.mem_append_right _ (List.mem_append_right _ (List.mem_append_right _ (List.mem_append_left _ (List.mem_of_getElem? (i := 49) rfl))))))))) (fun w hw => hnw w (s_in s_at38 w hw))
    exact ⟨z, fun q bl h1 h2 => by cases h1; cases h2; exact hz⟩
  | 39 => by
    obtain ⟨z, hz⟩ := str_of (args := args) (s := s) (q := ("PinInn", 352, "no such night")) (bl := [110, 111, 32, 115, 117, 99, 104, 32, 110, 105, 103, 104, 116]) (by decide) (hts _ (List.mem_append_right _ (List.mem_append_right _ (List.mem_append_right _ (List.mem_append_right _ (List.mem_append_right _ (List.mem_append_right _ (List.mem_append_left _ (List.mem_of_getElem? (i := 57) rfl))))))))) (fun w hw => hnw w (s_in s_at39 w hw))
    exact ⟨z, fun q bl h1 h2 => by cases h1; cases h2; exact hz⟩
  | 40 => by
    obtain ⟨z, hz⟩ := str_of (args := args) (s := s) (q := ("PinInn", 365, "below 0")) (bl := [98, 101, 108, 111, 119, 32, 48]) (by decide) (hts _ (List.mem_append_right _ (List.mem_append_right _ (List.mem_append_right _ (List.mem_append_right _ (List.mem_append_right _ (List.mem_append_right _ (List.mem_append_left _ (List.mem_of_getElem? (i := 67) rfl))))))))) (fun w hw => hnw w (s_in s_at40 w hw))
    exact ⟨z, fun q bl h1 h2 => by cases h1; cases h2; exact hz⟩
  | 41 => by
    obtain ⟨z, hz⟩ := str_of (args := args) (s := s) (q := ("PinInn", 367, "no such base or rate")) (bl := [110, 111, 32, 115, 117, 99, 104, 32, 98, 97, 115, 101, 32, 111, 114, 32, 114, 97, 116, 101]) (by decide) (hts _ (List.mem_append_right _ (List.mem_append_right _ (List.mem_append_right _ (List.mem_append_right _ (List.mem_append_right _ (List.mem_append_right _ (List.mem_append_left _ (List.mem_of_getElem? (i := 75) rfl))))))))) (fun w hw => hnw w (s_in s_at41 w hw))
    exact ⟨z, fun q bl h1 h2 => by cases h1; cases h2; exact hz⟩
  | 42 => by
    obtain ⟨z, hz⟩ := str_of (args := args) (s := s) (q := ("PinInnModel", 134, "room")) (bl := [114, 111, 111, 109]) (by decide) (hts _ (List.mem_append_right _ (List.mem_append_right _ (List.mem_append_right _ (List.mem_append_right _ (List.mem_append_right _ (List.mem_append_right _ (List.mem_append_left _ (List.mem_of_getElem? (i := 227) rfl))))))))) (fun w hw => hnw w (s_in s_at42 w hw))
    exact ⟨z, fun q bl h1 h2 => by cases h1; cases h2; exact hz⟩
  | 43 => by
    obtain ⟨z, hz⟩ := str_of (args := args) (s := s) (q := ("PinInnModel", 140, "guest")) (bl := [103, 117, 101, 115, 116]) (by decide) (hts _ (List.mem_append_right _ (List.mem_append_right _ (List.mem_append_right _ (List.mem_append_right _ (List.mem_append_right _ (List.mem_append_right _ (List.mem_append_right _ (List.mem_append_left _ (List.mem_of_getElem? (i := 10) rfl)))))))))) (fun w hw => hnw w (s_in s_at43 w hw))
    exact ⟨z, fun q bl h1 h2 => by cases h1; cases h2; exact hz⟩
  | 44 => by
    obtain ⟨z, hz⟩ := str_of (args := args) (s := s) (q := ("PinInnModel", 122, "in")) (bl := [105, 110]) (by decide) (hts _ (List.mem_append_right _ (List.mem_append_right _ (List.mem_append_right _ (List.mem_append_right _ (List.mem_append_right _ (List.mem_append_right _ (List.mem_append_right _ (List.mem_append_left _ (List.mem_of_getElem? (i := 19) rfl)))))))))) (fun w hw => hnw w (s_in s_at44 w hw))
    exact ⟨z, fun q bl h1 h2 => by cases h1; cases h2; exact hz⟩
  | 45 => by
    obtain ⟨z, hz⟩ := str_of (args := args) (s := s) (q := ("PinInnModel", 145, "trunk")) (bl := [116, 114, 117, 110, 107]) (by decide) (hts _ (List.mem_append_right _ (List.mem_append_right _ (List.mem_append_right _ (List.mem_append_right _ (List.mem_append_right _ (List.mem_append_right _ (List.mem_append_right _ (List.mem_append_left _ (List.mem_of_getElem? (i := 28) rfl)))))))))) (fun w hw => hnw w (s_in s_at45 w hw))
    exact ⟨z, fun q bl h1 h2 => by cases h1; cases h2; exact hz⟩
  | 46 => by
    obtain ⟨z, hz⟩ := str_of (args := args) (s := s) (q := ("PinInnModel", 129, "to")) (bl := [116, 111]) (by decide) (hts _ (List.mem_append_right _ (List.mem_append_right _ (List.mem_append_right _ (List.mem_append_right _ (List.mem_append_right _ (List.mem_append_right _ (List.mem_append_right _ (List.mem_append_left _ (List.mem_of_getElem? (i := 37) rfl)))))))))) (fun w hw => hnw w (s_in s_at46 w hw))
    exact ⟨z, fun q bl h1 h2 => by cases h1; cases h2; exact hz⟩
  | 47 => by
    obtain ⟨z, hz⟩ := str_of (args := args) (s := s) (q := ("PinInnModel", 150, "stove")) (bl := [115, 116, 111, 118, 101]) (by decide) (hts _ (List.mem_append_right _ (List.mem_append_right _ (List.mem_append_right _ (List.mem_append_right _ (List.mem_append_right _ (List.mem_append_right _ (List.mem_append_right _ (List.mem_append_left _ (List.mem_of_getElem? (i := 38) rfl)))))))))) (fun w hw => hnw w (s_in s_at47 w hw))
    exact ⟨z, fun q bl h1 h2 => by cases h1; cases h2; exact hz⟩
  | 48 => by
    obtain ⟨z, hz⟩ := str_of (args := args) (s := s) (q := ("PinInnModel", 155, "snow")) (bl := [115, 110, 111, 119]) (by decide) (hts _ (List.mem_append_right _ (List.mem_append_right _ (List.mem_append_right _ (List.mem_append_right _ (List.mem_append_right _ (List.mem_append_right _ (List.mem_append_right _ (List.mem_append_left _ (List.mem_of_getElem? (i := 43) rfl)))))))))) (fun w hw => hnw w (s_in s_at48 w hw))
    exact ⟨z, fun q bl h1 h2 => by cases h1; cases h2; exact hz⟩
  | 49 => by
    obtain ⟨z, hz⟩ := str_of (args := args) (s := s) (q := ("PinInnModel", 160, "bound")) (bl := [98, 111, 117, 110, 100]) (by decide) (hts _ (List.mem_append_right _ (List.mem_append_right _ (List.mem_append_right _ (List.mem_append_right _ (List.mem_append_right _ (List.mem_append_right _ (List.mem_append_right _ (List.mem_append_left _ (List.mem_of_getElem? (i := 48) rfl)))))))))) (fun w hw => hnw w (s_in s_at49 w hw))
    exact ⟨z, fun q bl h1 h2 => by cases h1; cases h2; exact hz⟩
  | 50 => by
    obtain ⟨z, hz⟩ := str_of (args := args) (s := s) (q := ("PinInnModel", 163, "slide")) (bl := [115, 108, 105, 100, 101]) (by decide) (hts _ (List.mem_append_right _ (List.mem_append_right _ (List.mem_append_right _ (List.mem_append_right _ (List.mem_append_right _ (List.mem_append_right _ (List.mem_append_right _ (List.mem_append_left _ (List.mem_of_getElem? (i := 50) rfl)))))))))) (fun w hw => hnw w (s_in s_at50 w hw))
    exact ⟨z, fun q bl h1 h2 => by cases h1; cases h2; exact hz⟩
  | 51 => by
    obtain ⟨z, hz⟩ := str_of (args := args) (s := s) (q := ("PinInnModel", 165, "west")) (bl := [119, 101, 115, 116]) (by decide) (hts _ (List.mem_append_right _ (List.mem_append_right _ (List.mem_append_right _ (List.mem_append_right _ (List.mem_append_right _ (List.mem_append_right _ (List.mem_append_right _ (List.mem_append_left _ (List.mem_of_getElem? (i := 51) rfl)))))))))) (fun w hw => hnw w (s_in s_at51 w hw))
    exact ⟨z, fun q bl h1 h2 => by cases h1; cases h2; exact hz⟩
  | 52 => by
    obtain ⟨z, hz⟩ := str_of (args := args) (s := s) (q := ("PinInnModel", 167, "south")) (bl := [115, 111, 117, 116, 104]) (by decide) (hts _ (List.mem_append_right _ (List.mem_append_right _ (List.mem_append_right _ (List.mem_append_right _ (List.mem_append_right _ (List.mem_append_right _ (List.mem_append_right _ (List.mem_append_left _ (List.mem_of_getElem? (i := 52) rfl)))))))))) (fun w hw => hnw w (s_in s_at52 w hw))
    exact ⟨z, fun q bl h1 h2 => by cases h1; cases h2; exact hz⟩
  | 53 => by
    obtain ⟨z, hz⟩ := str_of (args := args) (s := s) (q := ("PinInnModel", 221, "want")) (bl := [119, 97, 110, 116]) (by decide) (hts _ (List.mem_append_right _ (List.mem_append_right _ (List.mem_append_right _ (List.mem_append_right _ (List.mem_append_right _ (List.mem_append_right _ (List.mem_append_right _ (List.mem_append_left _ (List.mem_of_getElem? (i := 65) rfl)))))))))) (fun w hw => hnw w (s_in s_at53 w hw))
    exact ⟨z, fun q bl h1 h2 => by cases h1; cases h2; exact hz⟩
  | 54 => by
    obtain ⟨z, hz⟩ := str_of (args := args) (s := s) (q := ("PinInnModel", 199, "not")) (bl := [110, 111, 116]) (by decide) (hts _ (List.mem_append_right _ (List.mem_append_right _ (List.mem_append_right _ (List.mem_append_right _ (List.mem_append_right _ (List.mem_append_right _ (List.mem_append_right _ (List.mem_append_left _ (List.mem_of_getElem? (i := 82) rfl)))))))))) (fun w hw => hnw w (s_in s_at54 w hw))
    exact ⟨z, fun q bl h1 h2 => by cases h1; cases h2; exact hz⟩
  | 55 => by
    obtain ⟨z, hz⟩ := str_of (args := args) (s := s) (q := ("PinInnModel", 207, "alone")) (bl := [97, 108, 111, 110, 101]) (by decide) (hts _ (List.mem_append_right _ (List.mem_append_right _ (List.mem_append_right _ (List.mem_append_right _ (List.mem_append_right _ (List.mem_append_right _ (List.mem_append_right _ (List.mem_append_left _ (List.mem_of_getElem? (i := 91) rfl)))))))))) (fun w hw => hnw w (s_in s_at55 w hw))
    exact ⟨z, fun q bl h1 h2 => by cases h1; cases h2; exact hz⟩
  | 56 => by
    obtain ⟨z, hz⟩ := str_of (args := args) (s := s) (q := ("PinInnModel", 209, "with")) (bl := [119, 105, 116, 104]) (by decide) (hts _ (List.mem_append_right _ (List.mem_append_right _ (List.mem_append_right _ (List.mem_append_right _ (List.mem_append_right _ (List.mem_append_right _ (List.mem_append_right _ (List.mem_append_left _ (List.mem_of_getElem? (i := 92) rfl)))))))))) (fun w hw => hnw w (s_in s_at56 w hw))
    exact ⟨z, fun q bl h1 h2 => by cases h1; cases h2; exact hz⟩
  | 57 => by
    obtain ⟨z, hz⟩ := str_of (args := args) (s := s) (q := ("PinInnModel", 180, "x")) (bl := [120]) (by decide) (hts _ (List.mem_append_right _ (List.mem_append_right _ (List.mem_append_right _ (List.mem_append_right _ (List.mem_append_right _ (List.mem_append_right _ (List.mem_append_right _ (List.mem_append_left _ (List.mem_of_getElem? (i := 101) rfl)))))))))) (fun w hw => hnw w (s_in s_at57 w hw))
    exact ⟨z, fun q bl h1 h2 => by cases h1; cases h2; exact hz⟩
  | 58 => by
    obtain ⟨z, hz⟩ := str_of (args := args) (s := s) (q := ("PinInnModel", 182, "y")) (bl := [121]) (by decide) (hts _ (List.mem_append_right _ (List.mem_append_right _ (List.mem_append_right _ (List.mem_append_right _ (List.mem_append_right _ (List.mem_append_right _ (List.mem_append_right _ (List.mem_append_left _ (List.mem_of_getElem? (i := 102) rfl)))))))))) (fun w hw => hnw w (s_in s_at58 w hw))
    exact ⟨z, fun q bl h1 h2 => by cases h1; cases h2; exact hz⟩
  | 59 => by
    obtain ⟨z, hz⟩ := str_of (args := args) (s := s) (q := ("PinInnModel", 184, "far")) (bl := [102, 97, 114]) (by decide) (hts _ (List.mem_append_right _ (List.mem_append_right _ (List.mem_append_right _ (List.mem_append_right _ (List.mem_append_right _ (List.mem_append_right _ (List.mem_append_right _ (List.mem_append_left _ (List.mem_of_getElem? (i := 103) rfl)))))))))) (fun w hw => hnw w (s_in s_at59 w hw))
    exact ⟨z, fun q bl h1 h2 => by cases h1; cases h2; exact hz⟩
  | 60 => by
    obtain ⟨z, hz⟩ := str_of (args := args) (s := s) (q := ("PinInnModel", 185, "heads")) (bl := [104, 101, 97, 100, 115]) (by decide) (hts _ (List.mem_append_right _ (List.mem_append_right _ (List.mem_append_right _ (List.mem_append_right _ (List.mem_append_right _ (List.mem_append_right _ (List.mem_append_right _ (List.mem_append_left _ (List.mem_of_getElem? (i := 104) rfl)))))))))) (fun w hw => hnw w (s_in s_at60 w hw))
    exact ⟨z, fun q bl h1 h2 => by cases h1; cases h2; exact hz⟩
  | 61 => by
    obtain ⟨z, hz⟩ := str_of (args := args) (s := s) (q := ("PinInnModel", 214, "and")) (bl := [97, 110, 100]) (by decide) (hts _ (List.mem_append_right _ (List.mem_append_right _ (List.mem_append_right _ (List.mem_append_right _ (List.mem_append_right _ (List.mem_append_right _ (List.mem_append_right _ (List.mem_append_left _ (List.mem_of_getElem? (i := 105) rfl)))))))))) (fun w hw => hnw w (s_in s_at61 w hw))
    exact ⟨z, fun q bl h1 h2 => by cases h1; cases h2; exact hz⟩
  | 62 => by
    obtain ⟨z, hz⟩ := str_of (args := args) (s := s) (q := ("PinInnModel", 219, "or")) (bl := [111, 114]) (by decide) (hts _ (List.mem_append_right _ (List.mem_append_right _ (List.mem_append_right _ (List.mem_append_right _ (List.mem_append_right _ (List.mem_append_right _ (List.mem_append_right _ (List.mem_append_left _ (List.mem_of_getElem? (i := 106) rfl)))))))))) (fun w hw => hnw w (s_in s_at62 w hw))
    exact ⟨z, fun q bl h1 h2 => by cases h1; cases h2; exact hz⟩
  | 63 => by
    obtain ⟨z, hz⟩ := str_of (args := args) (s := s) (q := ("PinInnModel", 223, "at")) (bl := [97, 116]) (by decide) (hts _ (List.mem_append_right _ (List.mem_append_right _ (List.mem_append_right _ (List.mem_append_right _ (List.mem_append_right _ (List.mem_append_right _ (List.mem_append_right _ (List.mem_append_left _ (List.mem_of_getElem? (i := 111) rfl)))))))))) (fun w hw => hnw w (s_in s_at63 w hw))
    exact ⟨z, fun q bl h1 h2 => by cases h1; cases h2; exact hz⟩
  | n + 64 => ⟨(0, 0), fun q bl h1 _ => by cases h1⟩
theorem start_D (hts : ∀ w ∈ lw_tbl, w.before args s = true) : ∃ D : va_G, ∀ (c : Nat) (q : vw_C), vwCl[c]? = some q → u_Kn s q.1 q.2.1 q.2.2 (D.1 c) (D.2 c) := by
  have hG : ∀ w ∈ gTbl, w.before args s = true := fun w hw => hts w (List.mem_filter.mp hw).1
  have h0 : ∀ c : Nat, ∃ z : ClassId × (Nat → Nat), ∀ q, vwCl[c]? = some q → u_Kn s q.1 q.2.1 q.2.2 z.1 z.2 := fun c => by
    match c with
    | 0 =>
      obtain ⟨cC, iS, hK⟩ := u_known (C := RX0) (T := TX0) (N := 4) (n := 4) hG cw_X0 (hts _ (List.mem_append_right _ (List.mem_append_left _ (List.mem_of_getElem? (i := 104) rfl))))
      exact ⟨(cC, iS), fun q hq => by cases hq; exact hK⟩
    | 1 =>
      obtain ⟨cC, iS, hK⟩ := u_known (C := RX1) (T := TX1) (N := 4) (n := 4) hG cw_X1 (hts _ (List.mem_append_right _ (List.mem_append_right _ (List.mem_append_left _ (List.mem_of_getElem? (i := 138) rfl)))))
      exact ⟨(cC, iS), fun q hq => by cases hq; exact hK⟩
    | 2 =>
      obtain ⟨cC, iS, hK⟩ := u_known (C := RX2) (T := TX2) (N := 20) (n := 20) hG cw_X2 (hts _ (List.mem_append_right _ (List.mem_append_left _ (List.mem_of_getElem? (i := 71) rfl))))
      exact ⟨(cC, iS), fun q hq => by cases hq; exact hK⟩
    | 3 =>
      obtain ⟨cC, iS, hK⟩ := u_known (C := RX3) (T := TX3) (N := 5) (n := 5) hG cw_X3 (hts _ (List.mem_append_right _ (List.mem_append_right _ (List.mem_append_left _ (List.mem_of_getElem? (i := 36) rfl)))))
      exact ⟨(cC, iS), fun q hq => by cases hq; exact hK⟩
    | 4 =>
      obtain ⟨cC, iS, hK⟩ := u_known (C := RX4) (T := TX4) (N := 3) (n := 3) hG cw_X4 (hts _ (List.mem_append_right _ (List.mem_append_right _ (List.mem_append_left _ (List.mem_of_getElem? (i := 122) rfl)))))
      exact ⟨(cC, iS), fun q hq => by cases hq; exact hK⟩
    | 5 =>
      obtain ⟨cC, iS, hK⟩ := u_known (C := RX5) (T := TX5) (N := 4) (n := 4) hG cw_X5 (hts _ (List.mem_append_right _ (List.mem_append_right _ (List.mem_append_left _ (List.mem_of_getElem? (i := 100) rfl)))))
      exact ⟨(cC, iS), fun q hq => by cases hq; exact hK⟩
    | 6 =>
      obtain ⟨cC, iS, hK⟩ := u_known (C := RX6) (T := TX6) (N := 7) (n := 7) hG cw_X6 (hts _ (List.mem_append_right _ (List.mem_append_left _ (List.mem_of_getElem? (i := 37) rfl))))
      exact ⟨(cC, iS), fun q hq => by cases hq; exact hK⟩
    | 7 =>
      obtain ⟨cC, iS, hK⟩ := u_known (C := RX8) (T := TX8) (N := 4) (n := 4) hG cw_X8 (hts _ (List.mem_append_right _ (List.mem_append_left _ (List.mem_of_getElem? (i := 79) rfl))))
      exact ⟨(cC, iS), fun q hq => by cases hq; exact hK⟩
    | 8 =>
      obtain ⟨cC, iS, hK⟩ := u_known (C := RX9) (T := TX9) (N := 10) (n := 10) hG cw_X9 (hts _ (List.mem_append_right _ (List.mem_append_right _ (List.mem_append_left _ (List.mem_of_getElem? (i := 60) rfl)))))
      exact ⟨(cC, iS), fun q hq => by cases hq; exact hK⟩
    | 9 =>
      obtain ⟨cC, iS, hK⟩ := u_known (C := RX10) (T := TX10) (N := 4) (n := 4) hG cw_X10 (hts _ (List.mem_append_right _ (List.mem_append_left _ (List.mem_of_getElem? (i := 138) rfl))))
      exact ⟨(cC, iS), fun q hq => by cases hq; exact hK⟩
    | 10 =>
      obtain ⟨cC, iS, hK⟩ := u_known (C := RX11) (T := TX11) (N := 10) (n := 10) hG cw_X11 (hts _ (List.mem_append_right _ (List.mem_append_left _ (List.mem_of_getElem? (i := 29) rfl))))
      exact ⟨(cC, iS), fun q hq => by cases hq; exact hK⟩
    | 11 =>
      obtain ⟨cC, iS, hK⟩ := u_known (C := RX12) (T := TX12) (N := 29) (n := 29) hG cw_X12 (hts _ (List.mem_append_right _ (List.mem_append_right _ (List.mem_append_right _ (List.mem_append_right _ (List.mem_append_right _ (List.mem_append_right _ (List.mem_append_left _ (List.mem_of_getElem? (i := 84) rfl)))))))))
      exact ⟨(cC, iS), fun q hq => by cases hq; exact hK⟩
    | n + 12 => exact ⟨(0, fun _ => 0), fun q hq => by cases hq⟩
  obtain ⟨z, hz⟩ := Classical.axiomOfChoice h0
  exact ⟨(fun c => (z c).1, fun c => (z c).2), fun c q hq => hz c q hq⟩
theorem start_cy (hts : ∀ w ∈ lw_tbl, w.before args s = true) : ∃ cy : Nat → ClassId, ∀ (k : Nat) (q : ClassId × FieldType), (tys cy)[k]? = some q → ArrOfT s q.1 q.2 ∧ va_RA s q.1 q.2 := by
  obtain ⟨c12, k12, p12, e12, f12, g12⟩ := Cond.arrayClass_spec (type := .byte) (hts _ (List.mem_append_right _ (List.mem_append_left _ (List.mem_of_getElem? (i := 69) rfl))))
  obtain ⟨c13, k13, p13, e13, f13, g13⟩ := Cond.arrayClass_spec (type := .int) (hts _ (List.mem_append_right _ (List.mem_append_left _ (List.mem_of_getElem? (i := 102) rfl))))
  obtain ⟨c14, k14, p14, e14, f14, g14⟩ := Cond.arrayClass_spec (type := .boolean) (hts _ (List.mem_append_right _ (List.mem_append_right _ (List.mem_append_right _ (List.mem_append_right _ (List.mem_append_right _ (List.mem_append_right _ (List.mem_append_left _ (List.mem_of_getElem? (i := 178) rfl)))))))))
  obtain ⟨c16, k16, p16, e16, f16, g16⟩ := Cond.arrayClass_spec (type := .long) (hts _ (List.mem_append_right _ (List.mem_append_right _ (List.mem_append_right _ (List.mem_append_right _ (List.mem_append_right _ (List.mem_append_right _ (List.mem_append_right _ (List.mem_append_right _ (List.mem_of_getElem? (i := 179) rfl))))))))))
  obtain ⟨p15, c15, k15, e15, -, f15, g15, i15⟩ := Cond.arrayOver_spec (hts _ (List.mem_append_right _ (List.mem_append_left _ (List.mem_of_getElem? (i := 77) rfl))))
  refine ⟨fun k => if k = 12 then c12 else if k = 13 then c13 else if k = 14 then c14 else if k = 15 then c15 else c16, fun k q hq => ?_⟩
  match k with
  | 0 => cases hq; exact ⟨fun N z => ⟨(fun k h => by cases h), k12, f12, p12, g12⟩, e12⟩
  | 1 => cases hq; exact ⟨fun N z => ⟨(fun k h => by cases h), k13, f13, p13, g13⟩, e13⟩
  | 2 => cases hq; exact ⟨fun N z => ⟨(fun k h => by cases h), k14, f14, p14, g14⟩, e14⟩
  | 3 => cases hq; exact ⟨fun N z => ⟨(fun k h => by cases h), k15, f15, p15, g15⟩, k15, p15, f15, g15, e15, i15⟩
  | 4 => cases hq; exact ⟨fun N z => ⟨(fun k h => by cases h), k16, f16, p16, g16⟩, e16⟩
  | n + 5 => cases hq
theorem start_sk (b : Nat) (hts : ∀ w ∈ lw_tbl, w.before args s = true) (hnw : ∀ w ∈ flatC nwT, w.before args s = true) : ∃ sk : Nat → Nat, SKo sk (fun q => s.heap.size ≤ q) s s.heap ∧ sk 3000 = b := by
  have hA : ∀ a : Nat, a < s.heap.size → ¬ (fun q => s.heap.size ≤ q) a := fun a ha h => Nat.not_le.mpr ha h
  obtain ⟨ad, had⟩ := Classical.axiomOfChoice (strs hts hnw)
  have hZ : ∃ v, va_Z "jdk/internal/util/Preconditions" "SIOOBE_FORMATTER" "Ljava/util/function/BiFunction;" (.ref v) (fun q => s.heap.size ≤ q) s s.heap ∨ va_Z "jdk/internal/util/Preconditions" "SIOOBE_FORMATTER" "Ljava/util/function/BiFunction;" .null (fun q => s.heap.size ≤ q) s s.heap := by
    have hi : (Cond.isRef (.static "jdk/internal/util/Preconditions" "SIOOBE_FORMATTER" "Ljava/util/function/BiFunction;")).before args s = true := hnw _ (List.mem_of_getElem? (i := 5) (by decide +kernel))
    obtain ⟨v, h9, h8⟩ := Cond.isRef_spec hi
    cases v with
    | null => exact ⟨0, Or.inr (va_Zof (hts _ (List.mem_append_right _ (List.mem_append_right _ (List.mem_append_right _ (List.mem_append_left _ (List.mem_of_getElem? (i := 207) rfl)))))) (hts _ (List.mem_append_right _ (List.mem_append_left _ (List.mem_of_getElem? (i := 17) rfl)))) h9 hA)⟩
    | ref v => exact ⟨v, Or.inl (va_Zof (hts _ (List.mem_append_right _ (List.mem_append_right _ (List.mem_append_right _ (List.mem_append_left _ (List.mem_of_getElem? (i := 207) rfl)))))) (hts _ (List.mem_append_right _ (List.mem_append_left _ (List.mem_of_getElem? (i := 17) rfl)))) h9 hA)⟩
    | _ => cases h8
  obtain ⟨sio, hsio⟩ := hZ
  refine ⟨fun i => if i = 3000 then b else if i = 2000 then sio else if i < 1000 then (ad i).1 else (ad (i - 1000)).2, ⟨fun j q hq => ?_, fun j bl hj => ?_, ?_, ?_, ?_, ?_, ?_, ?_, ?_⟩, by simp⟩
  · have hj : j < 64 := (List.getElem?_eq_some_iff.mp hq).1
    obtain ⟨bl, hb⟩ : ∃ bl, sB[j]? = some bl := ⟨_, List.getElem?_eq_getElem (show j < sB.length from hj)⟩
    have := (had j q bl hq hb).1
    simp only [show ¬ j = 3000 by omega, show ¬ j = 2000 by omega, show j < 1000 by omega, if_true, if_false]
    exact this
  · have hj6 : j < 64 := (List.getElem?_eq_some_iff.mp hj).1
    obtain ⟨q, hq⟩ : ∃ q, kS[j]? = some q := ⟨_, List.getElem?_eq_getElem (show j < kS.length from hj6)⟩
    have := (had j q bl hq hj).2
    simp only [show ¬ j = 3000 by omega, show ¬ j = 2000 by omega, show j < 1000 by omega, show ¬ j + 1000 = 3000 by omega, show ¬ j + 1000 = 2000 by omega, show ¬ j + 1000 < 1000 by omega, show j + 1000 - 1000 = j by omega, if_true, if_false]
    exact this
  · simp only [show ¬ (2000 : Nat) = 3000 by decide, if_true, if_false]
    exact hsio
  · exact va_Zof (hts _ (List.mem_append_right _ (List.mem_append_right _ (List.mem_append_right _ (List.mem_append_left _ (List.mem_of_getElem? (i := 191) rfl)))))) (hts _ (List.mem_append_right _ (List.mem_append_left _ (List.mem_of_getElem? (i := 15) rfl)))) (va_eqt (hnw _ (List.mem_of_getElem? (i := 4) (by decide +kernel)))) hA
  · exact vx_Zqof (hts _ (List.mem_append_right _ (List.mem_append_right _ (List.mem_append_right _ (List.mem_append_right _ (List.mem_append_left _ (List.mem_of_getElem? (i := 131) rfl))))))) (hts _ (List.mem_append_right _ (List.mem_append_left _ (List.mem_of_getElem? (i := 19) rfl)))) (hnw _ (List.mem_of_getElem? (i := 9) (by decide +kernel))) hA
  · exact vx_Zqof (hts _ (List.mem_append_right _ (List.mem_append_right _ (List.mem_append_right _ (List.mem_append_right _ (List.mem_append_left _ (List.mem_of_getElem? (i := 133) rfl))))))) (hts _ (List.mem_append_right _ (List.mem_append_left _ (List.mem_of_getElem? (i := 19) rfl)))) (hnw _ (List.mem_of_getElem? (i := 10) (by decide +kernel))) hA
  · intro w hw
    exact va_Nw.of (nW_on (List.mem_filter.mp hw).2) (hts w (List.mem_filter.mp hw).1)
  · exact va_AO.of (hts _ (List.mem_append_right _ (List.mem_append_left _ (List.mem_of_getElem? (i := 77) rfl))))
  · intro q hq
    rcases List.mem_cons.mp hq with rfl | hq
    · exact va_Nc.of (hnw _ (List.mem_of_getElem? (i := 53) (by decide +kernel)))
    rcases List.mem_cons.mp hq with rfl | hq
    · exact va_Nc.of (hnw _ (List.mem_of_getElem? (i := 38) (by decide +kernel)))
    rcases List.mem_cons.mp hq with rfl | hq
    · exact va_Nc.of (hnw _ (List.mem_of_getElem? (i := 68) (by decide +kernel)))
    rcases List.mem_cons.mp hq with rfl | hq
    · exact va_Nc.of (hnw _ (List.mem_of_getElem? (i := 24) (by decide +kernel)))
    rcases List.mem_cons.mp hq with rfl | hq
    · exact va_Nc.of (hnw _ (List.mem_of_getElem? (i := 39) (by decide +kernel)))
    rcases List.mem_cons.mp hq with rfl | hq
    · exact va_Nc.of (hnw _ (List.mem_of_getElem? (i := 70) (by decide +kernel)))
    rcases List.mem_cons.mp hq with rfl | hq
    · exact va_Nc.of (hnw _ (List.mem_of_getElem? (i := 23) (by decide +kernel)))
    rcases List.mem_cons.mp hq with rfl | hq
    · exact va_Nc.of (hnw _ (List.mem_of_getElem? (i := 54) (by decide +kernel)))
    rcases List.mem_cons.mp hq with rfl | hq
    · exact va_Nc.of (hnw _ (List.mem_of_getElem? (i := 69) (by decide +kernel)))
    rcases List.mem_cons.mp hq with rfl | hq
    · exact va_Nc.of (hnw _ (List.mem_of_getElem? (i := 25) (by decide +kernel)))
    rcases List.mem_cons.mp hq with rfl | hq
    · exact va_Nc.of (hnw _ (List.mem_of_getElem? (i := 55) (by decide +kernel)))
    rcases List.mem_cons.mp hq with rfl | hq
    · exact va_Nc.of (hnw _ (List.mem_of_getElem? (i := 40) (by decide +kernel)))
    cases hq
end START
def hp0 : Hp := (fun _ => (99, 0), fun _ _ => 0, fun _ _ => none, fun _ _ => 0, 0)
theorem whole_start {p : Program} {e : Env} {s : State} {m : MethodId} {below : List Frame} {meth : Method} {c : Code} (l : Launch) (hst : l.stackTraces = false) {b L : Nat} {xs : Nat → Int32} (hP : ∃ hz c9 s9, F_L_law_b0 xs L 3000 hp0 = some (1, hz, c9, s9) ∧ c9 ≤ room_1.cells ∧ s9 ≤ room_1.slots) (C0 : lw_At p s m meth c b L xs) : W p l e room_1 s m #[Value.ref b] below meth c s.heap [] 0 0 (lw_Z below #[Value.ref b] s) (entryFrame m ([Value.ref b] : List Value).toArray 7) := by
  obtain ⟨a1, a2, a3, a4, a5, a6, a7, a8, a9, a10⟩ := C0
  obtain ⟨hz, c9, s9, hF, hc, hs⟩ := hP
  have hnw : ∀ w ∈ flatC nwT, w.before #[Value.ref b] s = true := flat_of_before _ a10
  obtain ⟨D, hD⟩ := start_D a6
  obtain ⟨cy, hcy⟩ := start_cy a6
  obtain ⟨sk, hsk, rfl⟩ := start_sk b a6 hnw
  have hl := lv_entry ([Value.float 3000].map (tv sk (fun _ => 0))) (n := 7) (by rw [lg_len]; exact (by decide : (lg_sl [Value.float 3000]).length ≤ 7))
  rw [lg_entry_eq]
  rw [lv_args_tl] at hl
  have := r_L_law_b0 xs L 3000 hp0 (x := (p, l, e, room_1, s, m, #[Value.ref (sk 3000)], below, meth, c, D, cy, sk, fun q => s.heap.size ≤ q, 0, fun _ => 0, lw_Z below #[Value.ref (sk 3000)] s)) hF hst ⟨a7, a8, fun q => Nat.not_le.mpr a8 q⟩ ⟨rfl, sk 3000, rfl, rfl, rfl, a3, rfl⟩
  exact this ⟨a1, a2, a4, a5, fun w hw => a6 w (List.mem_filter.mp hw).1, ⟨hD, hcy⟩, fun q hq => hq, a9, hsk, fun q => by cases q⟩ (by show 65 ≤ room_1.frames; decide) (by show 64 * 65 ≤ room_1.locals; decide) (fun _ => 0) s.heap [] _ 0 0 ⟨(fun k q hq => by cases hq), ⟨(fun i j p q hi => by cases hi), (fun k q hq => by cases hq)⟩, va_S.rf, fun a k b ha => absurd ha (Nat.not_lt_zero _), Nat.le_refl _, fun _ _ => rfl⟩ hl (fun q hq => by rcases List.mem_cons.mp hq with rfl | hq; exact trivial; cases hq) trivial (by show 0 + c9 ≤ room_1.cells; omega) (by show 0 + s9 ≤ room_1.slots; omega)


/-! THE HOUSE'S LINES: a line, whatever it is -/
section HLINE
variable {h : Hp} {b : Nat → Int32} {n : Nat} {F : Nat → Int32} {J0 K0 J K : Nat → Nat → Int32} {G0 G : Nat → Int32} {q i : Nat} {t : Int32}
theorem hl_none (s : Sh h) (rel : RHs b n F J0 K0 G0 i J K G) (hq : q ≤ n) (n1 : ¬ tIs b n q w_room) (n2 : ¬ tIs b n q w_guest) (n3 : ¬ tIs b n q w_trunk) (n4 : ¬ tIs b n q w_stove) (n5 : ¬ tIs b n q w_snow) (n6 : ¬ tIs b n q w_bound) (n7 : ¬ tIs b n q w_slide) (n8 : ¬ tIs b n q w_west) (n9 : ¬ tIs b n q w_south) : HO h b n F J0 K0 G0 i (F_X3_readLine 36 1 3 (cT h b n J F q t (-1))) (fun hM => F_X12_readHouseLine 59 (rfT hM K G (tW b n q) q)) := by
  have tc := rel.1
  have tm := rel.2.1
  refine HO_no rel (J' := J) (q' := q) (t' := t) (f := q) (p' := tW b n q) ?_ K (fun hM sM => ?_) (fun _ _ _ => rfl) (fun _ _ => rfl)
  · unfold F_X3_readLine F_X3_readLine_b0
    rw [x_isW0 s tc hq wrd_2 n1, ob_s, cT_k, gd_d (k1 s), if_pos rfl, x_isW0 s tc hq wrd_3 n2, ob_s, if_pos rfl, x_isW0 s tc hq wrd_5 n3, ob_s, if_pos rfl, x_isW0 s tc hq wrd_7 n4, ob_s, if_pos rfl, x_isW0 s tc hq wrd_8 n5, ob_s, if_pos rfl, x_isW0 s tc hq wrd_9 n6, ob_s, if_pos rfl, x_isW0 s tc hq wrd_10 n7, ob_s, if_pos rfl, x_isW0 s tc hq wrd_11 n8, ob_s, if_pos rfl, x_isW0 s tc hq wrd_12 n9, ob_s, if_pos rfl, x_refuse s, ob2_s, gd_d (Or.inl rfl)]
  · show F_X12_readHouseLine 59 (rfT hM K G (tW b n q) q) = some (0, rfT hM K G (tW b n q) q)
    unfold F_X12_readHouseLine F_X12_readHouseLine_b0
    rw [m_isW0 sM tm hq wrd_42 n1, ob_s, m_k, gd_d (k59 sM), if_pos rfl, m_isW0 sM tm hq wrd_43 n2, ob_s, if_pos rfl, m_isW0 sM tm hq wrd_45 n3, ob_s, if_pos rfl, m_isW0 sM tm hq wrd_47 n4, ob_s, if_pos rfl, m_isW0 sM tm hq wrd_48 n5, ob_s, if_pos rfl, m_isW0 sM tm hq wrd_49 n6, ob_s, if_pos rfl, m_isW0 sM tm hq wrd_50 n7, ob_s, if_pos rfl, m_isW0 sM tm hq wrd_51 n8, ob_s, if_pos rfl, m_isW0 sM tm hq wrd_52 n9, ob_s, if_pos rfl]
    unfold F_X12_readHouseLine_b156 F_X12_readHouseLine_b157
    rw [gd_d (Or.inl rfl)]
theorem house_line (s : Sh h) (i0 : Inv (K0 60)) : LineOk h b n F (F_X3_readLine 36 1 3) (fun _ => F_X12_readHouseLine 59) 14 36 (RHs b n F J0 K0 G0) (RHF J0 K0 G0) := by
  intro i q J K G t hi hq _ rel
  have iK : Inv (K 60) := by
    have ok := rel.2.2.2.2.2.2.1
    have eF := rel.2.2.2.2.2.2.2.1
    rw [eF]
    exact Inv_fold i0 _ ok
  show HO h b n F J0 K0 G0 i (F_X3_readLine 36 1 3 (cT h b n J F q t (-1))) (fun hM => F_X12_readHouseLine 59 (rfT hM K G (tW b n q) q))
  by_cases n1 : tIs b n q w_room
  · exact hl_room s iK rel hq hi n1
  by_cases n2 : tIs b n q w_guest
  · exact hl_guest s iK rel hq hi n1 n2
  by_cases n3 : tIs b n q w_trunk
  · exact hl_trunk s iK rel hq hi n1 n2 n3
  by_cases n4 : tIs b n q w_stove
  · exact hl_stove s iK rel hq hi n1 n2 n3 n4
  by_cases n5 : tIs b n q w_snow
  · exact hl_snow s iK rel hq hi n1 n2 n3 n4 n5
  by_cases n6 : tIs b n q w_bound
  · exact hl_bound s iK rel hq hi n1 n2 n3 n4 n5 n6
  by_cases n7 : tIs b n q w_slide
  · exact hl_slide s iK rel hq hi n1 n2 n3 n4 n5 n6 n7
  by_cases n8 : tIs b n q w_west
  · exact hl_west s iK rel hq hi n1 n2 n3 n4 n5 n6 n7 n8
  by_cases n9 : tIs b n q w_south
  · exact hl_south s iK rel hq hi n1 n2 n3 n4 n5 n6 n7 n8 n9
  · exact hl_none s rel hq n1 n2 n3 n4 n5 n6 n7 n8 n9
end HLINE

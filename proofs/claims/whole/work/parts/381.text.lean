/-! TEXTS: a whole text, both sides -/
section TEXT
variable {h : Hp} {b : Nat → Int32} {n : Nat} {F : Nat → Int32}
def rlC (v0 kc : Nat) (RLC : Hp → Option (Int32 × Hp)) (v3 : Int32) (h : Hp) : Option (Int32 × Hp) :=
  gd (decide (kd h v0 = kc)) <| ob2 (F_X6_lookAtFirst 1 (setI h v0 0 (0 : Int32))) fun _ h4 => gd (decide (kd (setI h v0 0 (0 : Int32)) 1 = 6)) <| ob (F_X6_hasMore 1 h4) fun r7 => gd (decide (kd h4 1 = 6)) <| (if r7 = 0 then some ((1 : Int32), h4) else ob (iter (fun z : Int32 × Hp => lnC v0 kc RLC v3 z.1 z.2) FU ((0 : Int32), h4)) fnC)
theorem rl_k0 (v0 v2 : Nat) (v3 : Int32) (h : Hp) : F_X7_readLines_k0 v0 1 v2 v3 h = rlC v0 0 (F_X0_readLine v0 1 v2) v3 h := rfl
theorem rl_k3 (v0 v2 : Nat) (v3 : Int32) (h : Hp) : F_X7_readLines_k3 v0 1 v2 v3 h = rlC v0 3 (F_X3_readLine v0 1 v2) v3 h := rfl
theorem rl_k9 (v0 v2 : Nat) (v3 : Int32) (h : Hp) : F_X7_readLines_k9 v0 1 v2 v3 h = rlC v0 9 (F_X10_readLine v0 1 v2) v3 h := rfl
theorem nI_any (v : Int32) : ∃ k, v = nI k := ⟨v.toBitVec.toNat, by
  apply Int32.toBitVec_inj.mp
  show v.toBitVec = BitVec.ofNat 32 v.toBitVec.toNat
  rw [BitVec.ofNat_toNat, BitVec.setWidth_eq]⟩
/-- the reference's words when it begins to read -/
def gB (G : Nat → Int32) : Nat → Int32 := va_up (va_up (va_up G 8 (G 6)) 6 0) 13 0
theorem gB_T (hM : Hp) (K : Nat → Nat → Int32) (G : Nat → Int32) : ∃ g, rfS hM K (va_up (va_up (va_up (va_up G 8 (G 6)) 6 0) 7 0) 13 0) = rfT hM K (gB G) 0 g := by
  obtain ⟨g, e⟩ := nI_any (G 9)
  refine ⟨g, ?_⟩
  unfold rfT
  congr 1
  funext k
  unfold gB
  by_cases e7 : k = 7
  · subst e7
    rfl
  · by_cases e9 : k = 9
    · subst e9
      exact e
    · rw [rF_o e7 e9]
      simp only [va_2, if_neg e7]
theorem text_joint (s : Sh h) {v0 kc most : Nat} {v1 : Int32} {RLC : Hp → Option (Int32 × Hp)} {RM : Int32 → Hp → Option (Int32 × Hp)} {Rel : RT} {RelF : RTF} {J K : Nat → Nat → Int32} {G : Nat → Int32} (tc : TC b n J F) (hG : G 6 = nI n) (hKb : ∀ k, k < 400 → K 63 k = b k) (hv1 : v0 ≠ 1) (hv2 : v0 ≠ 2) (hk : kd h v0 = kc) (hmost : most < 100) (HL : LineOk h b n F RLC RM most v0 Rel RelF) (HS : SortOk v1 RM most) (hRel : ∀ i J K G, Rel i J K G → TC b n J F ∧ TM b n K G ∧ RelF J K G) (rel : Rel 0 (up2 J v0 0 0) K (gB G)) :
    (∃ f q' J' t' K' G' p', rlC v0 kc RLC (nI most) (cS h J F) = some (0, cT h b n J' F q' t' (nI f)) ∧ (∀ hM, Sh hM → F_X12_readAll 59 v1 (rfS hM K G) = some (-1, rfT hM K' G' p' f)) ∧ RelF J' K' G') ∨
    (∃ i' q' J' t' K' G' p' g', rlC v0 kc RLC (nI most) (cS h J F) = some (1, cT h b n J' F q' t' (-1)) ∧ (∀ hM, Sh hM → F_X12_readAll 59 v1 (rfS hM K G) = some (nI i', rfT hM K' G' p' g')) ∧ i' ≤ most ∧ Rel i' J' K' G') := by
  have hn := tc.1
  have tc0 : TC b n (up2 J v0 0 0) F := TC_up tc hv2
  have tm : TM b n K (gB G) := ⟨hn, by unfold gB; rw [va_o _ _ (by decide), va_o _ _ (by decide), va_e]; exact hG, hKb⟩
  have hq := tS_le (b := b) (n := n) (p := 0) (by omega)
  have c0 : rlC v0 kc RLC (nI most) (cS h J F) = (if tS b n 0 = n then some (1, cT h b n (up2 J v0 0 0) F (tS b n 0) (F 5) (-1)) else ob (iter (fun z : Int32 × Hp => lnC v0 kc RLC (nI most) z.1 z.2) FU ((0 : Int32), cT h b n (up2 J v0 0 0) F (tS b n 0) (F 5) (-1))) fnC) := by
    unfold rlC
    rw [cS_k, gd_d hk, cS_seta _ _ hv1, x_first s tc0, ob2_s, cS_k, gd_d (k1 s), x_more s hq hn, ob_s, cT_k, gd_d (k1 s)]
    by_cases e : tS b n 0 = n
    · rw [if_pos e, if_pos rfl, if_pos e]
    · rw [if_neg e, if_neg (by decide), if_neg e]
  have m0 : ∀ hM, Sh hM → F_X12_readAll 59 v1 (rfS hM K G) = (if tS b n 0 = n then some (0, rfT hM K (gB G) (tS b n 0) (tS b n 0)) else ob (iter (fun z : Int32 × Hp => F_X12_readAll_l42 59 v1 z.1 z.2) FU ((0 : Int32), rfT hM K (gB G) (tS b n 0) (tS b n 0))) fnM) := fun hM sM => by
    obtain ⟨g, eg⟩ := gB_T hM K G
    unfold F_X12_readAll F_X12_readAll_b0
    rw [rfS_k, gd_d (k59 sM), rfS_1, rfS_set, rfS_set, rfS_set, rfS_set, eg, m_blanks sM tm (by omega), ob2_s, m_k, gd_d (k59 sM), m_r7, m_r8, tm.2.1]
    by_cases e : tS b n 0 = n
    · rw [if_pos e, if_pos (by rw [e])]
    · rw [if_neg e, if_neg (fun x => e ((nI_eq (by omega) (by omega)).mp x))]
      rfl
  by_cases e : tS b n 0 = n
  · right
    refine ⟨0, tS b n 0, up2 J v0 0 0, F 5, K, gB G, tS b n 0, tS b n 0, ?_, fun hM sM => ?_, by omega, rel⟩
    · rw [c0, if_pos e]
    · rw [m0 hM sM, if_pos e]
      rfl
  · have key := lines_joint s hn hv1 hv2 hk hmost HL HS hRel (fun i J K G r => (hRel i J K G r).2.2) most 0 (tS b n 0) (tS b n 0) (up2 J v0 0 0) K (gB G) (F 5) FU FU (by omega) (FU_lt (by omega)) (FU_lt (by omega)) hq rel
    rw [tS_idem (by omega)] at key
    rcases key with ⟨f, q', J', t', K', G', p', a1, a2, a3⟩ | ⟨i', q', J', t', K', G', p', g', a1, a2, a3, a4⟩
    · left
      refine ⟨f, q', J', t', K', G', p', ?_, fun hM sM => ?_, a3⟩
      · rw [c0, if_neg e]
        exact a1
      · rw [m0 hM sM, if_neg e]
        exact a2 hM sM
    · right
      refine ⟨i', q', J', t', K', G', p', g', ?_, fun hM sM => ?_, a3, a4⟩
      · rw [c0, if_neg e]
        exact a1
      · rw [m0 hM sM, if_neg e]
        exact a2 hM sM
end TEXT

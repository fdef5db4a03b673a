/-! THE CALL bells: both -/
section BELLS2
variable {h : Hp} {f : Nat → Int32}
/-- the class answers from a heap that may have grown -/
theorem JB_g {hx : Hp} {J : Nat → Nat → Int32} {FL : Hp → Option (Int32 × Hp × Nat × Nat)} {FM : Hp → Option (Int32 × Hp)} {out : Int32} {c sl : Nat} (gx : GS hx) (jq : QN hx J) (e1 : FL h = some (0, setL (wI hx J) 72 0 out.toInt64, c, sl)) (p1 : c + potC hx ≤ potC h) (p2 : sl + potS hx ≤ potS h) (hm : ∃ J2, MN J J2 ∧ J2 59 0 = 0 ∧ FM (setL (wI hx J) 72 0 out.toInt64) = some (out, wI (setL (wI hx J) 72 0 out.toInt64) J2)) : JB h FL FM := by
  obtain ⟨J2, m1, m2, m3⟩ := hm
  have gs : GS (wI hx J2) := GS_w gx (fun a k h1 h2 h3 h4 => (m1 a k h1).trans (jq a k h1 h2 h3 h4))
  refine ⟨0, _, c, sl, out, _, e1, m3, k59 gx.1, m2, fun _ => ?_, GS_L gs, ?_, ?_⟩
  · show zL (setL hx 72 0 out.toInt64) 72 0 = _
    simp [setL, zL, up2, va_up]
  · show c + potC hx ≤ _
    omega
  · show sl + potS hx ≤ _
    omega
theorem put_out2 {hx : Hp} (s : Sh hx) (r : Int32) (c sl : Nat) : (gd (decide (kd hx 72 = 16)) <| gd (ix 0 (zl hx 72)) <| some ((0 : Int32), setL hx 72 ((0 : Int32)).toNatClampNeg r.toInt64, c, sl)) = some ((0 : Int32), setL hx 72 0 r.toInt64, c, sl) := by
  rw [gd_d (k72 s), l72 s, ix00, gd_t]
  rfl
theorem pa_q {hs hx : Hp} {J : Nat → Nat → Int32} {A Q n m : Nat} (po : paO hs hx J A Q n m) : QN hx J := fun a k h1 h2 h3 h4 => by
  obtain ⟨gx, px, -, -, -, -, -, jo⟩ := po
  rw [px.1] at h3
  rw [px.2.1] at h4
  rw [jo a (fun q => h3 (by rw [q])) (fun q => h4 (by rw [q])) (by unfold cNo at h2; omega) (by unfold cNo at h2; omega)]
theorem pa_60 {hs hx : Hp} {J : Nat → Nat → Int32} {A Q n m : Nat} (po : paO hs hx J A Q n m) : J 60 = zI hs 60 := by
  obtain ⟨gx, px, -, -, hA, hQ, lo, jo⟩ := po
  rw [jo 60 (by omega) (by omega) (by omega) (by omega), lo 60 (by omega)]
def tgN (f : Nat → Int32) (o : Option Nat) : Int32 := match o with
  | none => -1
  | some T0 => nI (piS (nG f) T0)
theorem j_bells (g : GS h) (v k : Int32) : JB h (F_L_bells 0 v k 72) (F_X12_bells 59 v k) := by
  obtain ⟨s, i, c, -⟩ := id g
  have g5 := iG5 i
  have p8 := pow8 g5
  have ok := okW c
  have bad : (k < -1 ∨ bdB (zI h 60) v) → JB h (F_L_bells 0 v k 72) (F_X12_bells 59 v k) := fun b => by
    obtain ⟨b0, J, m1, m2, m3⟩ := (m_bells s rfl i ok v k).1 b
    have e : F_X11_bells 0 v k h = some (.inr 0, h, 1, 6) := by
      unfold F_X11_bells F_X11_bells_b0 F_X11_bells_b21
      by_cases q : k < -1
      · rw [if_pos q]
      · rcases b with b | b
        · exact absurd b q
        · rw [if_neg q, if_neg b.1, gd_d (k0 s), r0_1 s, ob_s]
          obtain ⟨o1, o2⟩ := x_isSeating s i c v
          cases cc : isIn v (8 ^ nG (zI h 60)) with
          | false => rw [o1 cc, ob_s, gd_d (k3 s), if_pos rfl]
          | true =>
            obtain ⟨y, hy, rfl⟩ := isIn_of (by omega) cc
            rw [o2 y rfl hy, ob_s, gd_d (k3 s), b.2 y rfl hy, b2_f, if_pos rfl]
    refine JB_t g (k := 1) (by decide) ?_ ⟨b0, J, m3, m1, m2⟩
    unfold F_L_bells; rw [gd_d (k0 s), e, ob4_s]; rfl
  by_cases hk : k < -1
  · exact bad (Or.inl hk)
  · rcases tg_or i v with b | ⟨T, tg⟩
    · exact bad (Or.inr b)
    · have hk' : -1 ≤ k := fa_of_nlt hk
      -- where the class stands when it knows where to
      have mid : ∃ hs, GS hs ∧ zI hs 60 = zI h 60 ∧ potC hs = potC h ∧ potS hs = potS h ∧ F_X11_bells 0 v k h = F_X11_bells_b62 0 k (tgN (zI h 60) T) hs := by
        rcases tg with ⟨rfl, rfl⟩ | ⟨y, rfl, hy, hv, rfl⟩
        · obtain ⟨J, D, S, H, e, o, o1, o2, o3⟩ := x_find s rfl i c ok
          have sK : Sh (wK (wI h J) D S H) := s
          have gs : GS (wI h (zI (wK (wI h J) D S H))) := GS_w g (find_q o)
          refine ⟨wK (wI h J) D S H, gs, (wK_I (h := h) (J := J) (D := D) (S := S) (H := H) (a := 60) (by omega)).trans (o.1 60 (by omega)), rfl, rfl, ?_⟩
          have z : zI (wK (wI h J) D S H) 48 1 = (seC (zI h 60) (seB (zI h 60) (8 ^ nG (zI h 60)))).1 := by rw [wK_I (by omega), o1]
          unfold F_X11_bells F_X11_bells_b0 F_X11_bells_b32
          rw [if_neg hk, if_pos rfl, if_pos rfl, gd_d (k0 s), r0_6 s, ob_s, r0_1 s, ob_s, r0_5 s, ob_s, e, ob2_s, gd_d (k48 s), gd_d (k0 sK), r0_6 sK, ob_s, gd_d (k48 sK), z]
          cases seB (zI h 60) (8 ^ nG (zI h 60)) <;> rfl
        · refine ⟨h, g, rfl, rfl, rfl, ?_⟩
          have q : ¬ nI y = -1 := neg1_nI (by omega)
          unfold F_X11_bells F_X11_bells_b0 F_X11_bells_b32
          rw [if_neg hk, if_neg q, gd_d (k0 s), r0_1 s, ob_s, (x_isSeating s i c (nI y)).2 y rfl hy, ob_s, gd_d (k3 s), hv, b2_t, if_neg (by decide), if_neg q]
          show _ = F_X11_bells_b62 0 k (nI (piS (nG (zI h 60)) (ordS (nd y) (nG (zI h 60))))) h
          rw [pi_nd i hy]
      obtain ⟨hs, gs, e60, pc, ps, em⟩ := mid
      have ss := gs.1
      cases T with
      | none =>
        have e : F_X11_bells 0 v k h = some (.inl (-1), hs, 0, 0) := by
          rw [em]
          unfold F_X11_bells_b62
          rw [if_pos (show tgN (zI h 60) none = -1 from rfl)]
        refine JB_g gs (J := zI hs) (fun _ _ _ _ _ _ => rfl) (out := -1) (c := 0) (sl := 0) ?_ (by omega) (by omega) ?_
        · unfold F_L_bells
          rw [gd_d (k0 s), e, ob4_s]
          exact put_out2 ss _ _ _
        · obtain ⟨J2, m1, m2, m3⟩ := ((m_bells (h := setL hs 72 0 (-1 : Int32).toInt64) ss e60 i ok v k).2 none hk tg).1 rfl
          exact ⟨J2, m1, m2, m3⟩
      | some T0 =>
        have hT := tg_lt i tg
        obtain ⟨hx, J, A, Q, n, c0, sl, out, r⟩ := x_bell62 gs e60 hT hk'
        have mk : ∀ H : Hp, Sh H → zI H 60 = zI h 60 → allR (zI h 60) T0 k out → ∃ J2, MN (zI H) J2 ∧ J2 59 0 = 0 ∧ F_X12_bells 59 v k H = some (out, wI H J2) := fun H sH eH al => by
          obtain ⟨fr, J2, m0, m1, m2, m3⟩ := ((m_bells sH eH i ok v k).2 (some T0) hk tg).2 T0 rfl
          obtain ⟨ex, be⟩ := al fr m0
          exact ⟨J2, m1, m2, by rw [m3 ex, be]⟩
        rcases r with ⟨e, po, q1, q2, al⟩ | ⟨e, al⟩
        · have ec : F_X11_bells 0 v k h = some (.inl out, wI hx J, c0, sl) := em.trans e
          refine JB_g po.1 (pa_q po) (out := out) (c := c0) (sl := sl) ?_ (by omega) (by omega) (mk (setL (wI hx J) 72 0 out.toInt64) po.1.1 ((pa_60 po).trans e60) al)
          unfold F_L_bells
          rw [gd_d (k0 s), ec, ob4_s]
          exact put_out2 (hx := wI hx J) po.1.1 _ _ _
        · have ec : F_X11_bells 0 v k h = some (.inl out, hs, 0, 0) := em.trans e
          refine JB_g gs (J := zI hs) (fun _ _ _ _ _ _ => rfl) (out := out) (c := 0) (sl := 0) ?_ (by omega) (by omega) (mk (setL hs 72 0 out.toInt64) ss e60 al)
          unfold F_L_bells
          rw [gd_d (k0 s), ec, ob4_s]
          exact put_out2 ss _ _ _
end BELLS2

/-! THE LAYER. A heap is numbers: kind and length, ints, references (by number), longs of each cell, and how many cells there are. -/
abbrev Hp : Type := (Nat → Nat × Nat) × (Nat → Nat → Int32) × (Nat → Nat → Option Nat) × (Nat → Nat → Int64) × Nat
abbrev zK (h : Hp) : Nat → Nat × Nat := h.1
abbrev zI (h : Hp) : Nat → Nat → Int32 := h.2.1
abbrev zR (h : Hp) : Nat → Nat → Option Nat := h.2.2.1
abbrev zL (h : Hp) : Nat → Nat → Int64 := h.2.2.2.1
abbrev zN (h : Hp) : Nat := h.2.2.2.2
def kd (h : Hp) (a : Nat) : Nat := if a < zN h then (zK h a).1 else 99
def zl (h : Hp) (a : Nat) : Nat := (zK h a).2
def up2 {α : Type} (f : Nat → Nat → α) (a k : Nat) (v : α) : Nat → Nat → α := va_up f a (va_up (f a) k v)
def setI (h : Hp) (a k : Nat) (v : Int32) : Hp := (zK h, up2 (zI h) a k v, zR h, zL h, zN h)
def setR (h : Hp) (a k : Nat) (v : Option Nat) : Hp := (zK h, zI h, up2 (zR h) a k v, zL h, zN h)
def setL (h : Hp) (a k : Nat) (v : Int64) : Hp := (zK h, zI h, zR h, up2 (zL h) a k v, zN h)
def setA (h : Hp) (a : Nat) (f : Nat → Int32) : Hp := (zK h, va_up (zI h) a f, zR h, zL h, zN h)
def alloc (h : Hp) (k n : Nat) : Hp := (va_up (zK h) (zN h) (k, n), va_up (zI h) (zN h) (fun _ => 0), va_up (zR h) (zN h) (fun _ => none), va_up (zL h) (zN h) (fun _ => 0), zN h + 1)
/-- the fields of a class, in the order of the slots: is it a reference -/
def fk (k : Nat) : List Bool := match k with
  | 0 => [false, true, true, true]
  | 1 => [true, true, false, false]
  | 2 => [false, true, true, true, true, false, true, true, true, true, false, false, false, false, false, false, true, false, true, true]
  | 3 => [false, true, false, false, false]
  | 4 => [true, true, false]
  | 5 => [true, false, false, false]
  | 6 => [true, false, false, false, false, false, false]
  | 7 => [false, true, true, true]
  | 8 => [true, true, false, false, false, false, false, false, false, false]
  | 9 => [false, true, true, false]
  | 10 => [true, true, true, true, true, true, true, true, true, true]
  | 11 => [false, true, true, true, false, true, false, false, false, false, false, false, true, false, true, true, true, false, false, true, true, true, true, false, false, false, false, false, false]
  | _ => []
def fvs (I : Nat → Int32) (Rr : Nat → Option Nat) (ad : Nat → Nat) : List Bool → Nat → List Value
  | [], _ => []
  | b :: bs, i => (if b then va_rf ((Rr i).map ad) else .int (I i)) :: fvs I Rr ad bs (i + 1)
def cE (cy : Nat → ClassId) (K : Nat × Nat) (I : Nat → Int32) (Rr : Nat → Option Nat) (L : Nat → Int64) (ad : Nat → Nat) : va_E :=
  if K.1 < 12 then .inr (K.1, fvs I Rr ad (fk K.1) 0)
  else if K.1 = 15 then .inl (cy 15, K.2, .inr (.inr (.inr (.inr (fun i => (Rr i).map ad)))))
  else if K.1 = 16 then .inl (cy 16, K.2, .inr (.inl L))
  else .inl (cy K.1, K.2, .inl I)
def wl (cy : Nat → ClassId) (h : Hp) (ad : Nat → Nat) : va_W := (List.range (zN h)).map fun a => (ad a, cE cy (zK h a) (zI h a) (zR h a) (zL h a) ad)
def tys (cy : Nat → ClassId) : List (ClassId × FieldType) := [(cy 12, .byte), (cy 13, .int), (cy 14, .boolean), (cy 15, .object "PinInn$Wishes"), (cy 16, .long)]
theorem va_up_at {α : Type} (f : Nat → α) (k : Nat) (v : α) : va_up f k v k = v := by simp [va_up]
theorem fvs_get (I : Nat → Int32) (Rr : Nat → Option Nat) (ad : Nat → Nat) : ∀ (bs : List Bool) (i k : Nat) (b : Bool), bs[k]? = some b → (fvs I Rr ad bs i)[k]? = some (if b then va_rf ((Rr (i + k)).map ad) else .int (I (i + k)))
  | [], _, _, _, h => by simp at h
  | c :: bs, i, 0, b, h => by
    simp at h
    subst h
    rfl
  | c :: bs, i, k + 1, b, h => by
    have h' : bs[k]? = some b := by simpa using h
    have := fvs_get I Rr ad bs (i + 1) k b h'
    rw [show i + 1 + k = i + (k + 1) by omega] at this
    simpa [fvs] using this
theorem fvs_len (I : Nat → Int32) (Rr : Nat → Option Nat) (ad : Nat → Nat) : ∀ (bs : List Bool) (i : Nat), (fvs I Rr ad bs i).length = bs.length
  | [], _ => rfl
  | c :: bs, i => by simp [fvs, fvs_len I Rr ad bs (i + 1)]
theorem fvs_congr {I I' : Nat → Int32} {Rr Rr' : Nat → Option Nat} {ad ad' : Nat → Nat} : ∀ (bs : List Bool) (i : Nat), (∀ j, i ≤ j → I j = I' j) → (∀ j, i ≤ j → (Rr j).map ad = (Rr' j).map ad') → fvs I Rr ad bs i = fvs I' Rr' ad' bs i
  | [], _, _, _ => rfl
  | c :: bs, i, h1, h2 => by
    simp only [fvs]
    rw [h1 i (Nat.le_refl i), h2 i (Nat.le_refl i), fvs_congr bs (i + 1) (fun j hj => h1 j (by omega)) (fun j hj => h2 j (by omega))]
theorem fvs_setI (I : Nat → Int32) (Rr : Nat → Option Nat) (ad : Nat → Nat) (v : Int32) : ∀ (bs : List Bool) (i k : Nat), bs[k]? = some false → (fvs I Rr ad bs i).set k (.int v) = fvs (va_up I (i + k) v) Rr ad bs i
  | [], _, _, h => by simp at h
  | c :: bs, i, 0, h => by
    simp at h
    subst h
    simp only [fvs, List.set_cons_zero]
    rw [fvs_congr (I := I) (I' := va_up I (i + 0) v) (Rr := Rr) (Rr' := Rr) (ad := ad) (ad' := ad) bs (i + 1) (fun j hj => by rw [va_up_ne _ _ (by omega)]) (fun _ _ => rfl)]
    simp [va_up]
  | c :: bs, i, k + 1, h => by
    have h' : bs[k]? = some false := by simpa using h
    simp only [fvs, List.set_cons_succ]
    rw [fvs_setI I Rr ad v bs (i + 1) k h', show i + 1 + k = i + (k + 1) by omega, va_up_ne I v (show i ≠ i + (k + 1) by omega)]
theorem fvs_setR (I : Nat → Int32) (Rr : Nat → Option Nat) (ad : Nat → Nat) (v : Option Nat) : ∀ (bs : List Bool) (i k : Nat), bs[k]? = some true → (fvs I Rr ad bs i).set k (va_rf (v.map ad)) = fvs I (va_up Rr (i + k) v) ad bs i
  | [], _, _, h => by simp at h
  | c :: bs, i, 0, h => by
    simp at h
    subst h
    simp only [fvs, List.set_cons_zero]
    rw [fvs_congr (I := I) (I' := I) (Rr := Rr) (Rr' := va_up Rr (i + 0) v) (ad := ad) (ad' := ad) bs (i + 1) (fun _ _ => rfl) (fun j hj => by rw [va_up_ne _ _ (by omega)])]
    simp [va_up]
  | c :: bs, i, k + 1, h => by
    have h' : bs[k]? = some true := by simpa using h
    simp only [fvs, List.set_cons_succ]
    rw [fvs_setR I Rr ad v bs (i + 1) k h', show i + 1 + k = i + (k + 1) by omega, va_up_ne Rr v (show i ≠ i + (k + 1) by omega)]
theorem wl_get (cy : Nat → ClassId) (ad : Nat → Nat) {h : Hp} {a : Nat} (ha : a < zN h) : (wl cy h ad)[a]? = some (ad a, cE cy (zK h a) (zI h a) (zR h a) (zL h a) ad) := by
  simp [wl, List.getElem?_map, List.getElem?_range ha]
theorem wl_len (cy : Nat → ClassId) (h : Hp) (ad : Nat → Nat) : (wl cy h ad).length = zN h := by simp [wl]
theorem wl_set {cy : Nat → ClassId} {ad : Nat → Nat} {h h' : Hp} {a : Nat} {E : va_E} (hN : zN h' = zN h) (ho : ∀ b, b ≠ a → zK h' b = zK h b ∧ zI h' b = zI h b ∧ zR h' b = zR h b ∧ zL h' b = zL h b) (hE : cE cy (zK h' a) (zI h' a) (zR h' a) (zL h' a) ad = E) : (wl cy h ad).set a (ad a, E) = wl cy h' ad := by
  apply List.ext_getElem?
  intro b
  by_cases hb : b < zN h
  · rw [wl_get cy ad (h := h') (by omega)]
    by_cases hab : b = a
    · subst hab
      rw [List.getElem?_set_self (by rw [wl_len]; exact hb), hE]
    · rw [List.getElem?_set_ne (fun q => hab q.symm), wl_get cy ad hb]
      obtain ⟨e1, e2, e3, e4⟩ := ho b hab
      rw [e1, e2, e3, e4]
  · rw [List.getElem?_eq_none (by rw [List.length_set, wl_len]; omega), List.getElem?_eq_none (by rw [wl_len, hN]; omega)]
/-- all references lie in the heap -/
def wf (h : Hp) : Prop := ∀ a k b, a < zN h → zR h a k = some b → b < zN h
theorem cE_ad {cy : Nat → ClassId} {K : Nat × Nat} {I : Nat → Int32} {Rr : Nat → Option Nat} {L : Nat → Int64} {ad ad' : Nat → Nat} (h : ∀ k b, Rr k = some b → ad' b = ad b) : cE cy K I Rr L ad' = cE cy K I Rr L ad := by
  have e : ∀ j, (Rr j).map ad' = (Rr j).map ad := by
    intro j
    cases hj : Rr j with
    | none => rfl
    | some b => simp [h j b hj]
  unfold cE
  rw [fvs_congr (I := I) (I' := I) (Rr := Rr) (Rr' := Rr) (ad := ad') (ad' := ad) (fk K.1) 0 (fun _ _ => rfl) (fun j _ => e j)]
  simp only [e]
theorem wl_ad {cy : Nat → ClassId} {h : Hp} {ad ad' : Nat → Nat} (hw : wf h) (he : ∀ a, a < zN h → ad' a = ad a) : wl cy h ad' = wl cy h ad := by
  apply List.map_congr_left
  intro a ha
  have ha : a < zN h := by simpa using ha
  rw [he a ha, cE_ad (fun k b hb => he b (hw a k b ha hb))]
theorem wl_alloc {cy : Nat → ClassId} {h : Hp} {ad : Nat → Nat} {q k n : Nat} {E : va_E} (hw : wf h) (hE : cE cy (k, n) (fun _ => 0) (fun _ => none) (fun _ => 0) ad = E) : wl cy h ad ++ [(q, E)] = wl cy (alloc h k n) (va_up ad (zN h) q) := by
  have e1 : wl cy (alloc h k n) (va_up ad (zN h) q) = (List.range (zN h + 1)).map (fun a => ((va_up ad (zN h) q) a, cE cy (zK (alloc h k n) a) (zI (alloc h k n) a) (zR (alloc h k n) a) (zL (alloc h k n) a) (va_up ad (zN h) q))) := rfl
  rw [e1, List.range_succ, List.map_append]
  congr 1
  · apply List.map_congr_left
    intro a ha
    have ha : a < zN h := by simpa using ha
    have hne : a ≠ zN h := by omega
    have a1 : zK (alloc h k n) a = zK h a := va_up_ne _ _ hne
    have a2 : zI (alloc h k n) a = zI h a := va_up_ne _ _ hne
    have a3 : zR (alloc h k n) a = zR h a := va_up_ne _ _ hne
    have a4 : zL (alloc h k n) a = zL h a := va_up_ne _ _ hne
    rw [a1, a2, a3, a4, va_up_ne _ _ hne, cE_ad (ad := ad) (fun k b hb => va_up_ne _ _ (by have := hw a k b ha hb; omega))]
  · have a1 : zK (alloc h k n) (zN h) = (k, n) := va_up_at _ _ _
    have a2 : zI (alloc h k n) (zN h) = fun _ => 0 := va_up_at _ _ _
    have a3 : zR (alloc h k n) (zN h) = fun _ => none := va_up_at _ _ _
    have a4 : zL (alloc h k n) (zN h) = fun _ => 0 := va_up_at _ _ _
    simp only [List.map_cons, List.map_nil]
    rw [a1, a2, a3, a4, va_up_at, cE_ad (ad := ad) (fun k b hb => by cases hb), hE]
theorem wf_setI {h : Hp} {a k : Nat} {v : Int32} (hw : wf h) : wf (setI h a k v) := hw
theorem wf_setA {h : Hp} {a : Nat} {f : Nat → Int32} (hw : wf h) : wf (setA h a f) := hw
theorem wf_setL {h : Hp} {a k : Nat} {v : Int64} (hw : wf h) : wf (setL h a k v) := hw
theorem wf_setR {h : Hp} {a k : Nat} {v : Option Nat} (hw : wf h) (hv : ∀ b, v = some b → b < zN h) : wf (setR h a k v) := by
  intro a' k' b ha hb
  by_cases e : a' = a
  · subst e
    by_cases e2 : k' = k
    · subst e2
      have : zR (setR h a' k' v) a' k' = v := by simp [setR, zR, up2, va_up]
      rw [this] at hb
      exact hv b hb
    · have : zR (setR h a' k v) a' k' = zR h a' k' := by simp [setR, zR, up2, va_up, e2]
      rw [this] at hb
      exact hw a' k' b ha hb
  · have : zR (setR h a k v) a' k' = zR h a' k' := by simp [setR, zR, up2, va_up, e]
    rw [this] at hb
    exact hw a' k' b ha hb
theorem wf_alloc {h : Hp} {k n : Nat} (hw : wf h) : wf (alloc h k n) := by
  intro a' k' b ha hb
  show b < zN h + 1
  by_cases e : a' = zN h
  · subst e
    have : zR (alloc h k n) (zN h) k' = none := by simp [alloc, zR, zN, va_up]
    rw [this] at hb
    cases hb
  · have : zR (alloc h k n) a' k' = zR h a' k' := by simp [alloc, zR, va_up, e]
    rw [this] at hb
    have ha' : a' < zN h + 1 := ha
    have := hw a' k' b (by omega) hb
    omega
/-- values: a reference is a cell's number, a string constant its number in .float -/
def tv (sk : Nat → Nat) (ad : Nat → Nat) : Value → Value
  | .ref a => .ref (ad a)
  | .float k => .ref (sk k.toNat)
  | v => v
def okvN (n : Nat) : Value → Prop
  | .ref a => a < n
  | _ => True
def oksN (n : Nat) : List Value → Prop
  | [] => True
  | v :: st => okvN n v ∧ oksN n st
def okv (h : Hp) (v : Value) : Prop := okvN (zN h) v
def oks (h : Hp) (st : List Value) : Prop := oksN (zN h) st
def okl (h : Hp) (l : List (Nat × Value)) : Prop := ∀ q ∈ l, okvN (zN h) q.2
def tl (sk : Nat → Nat) (ad : Nat → Nat) (l : List (Nat × Value)) : List (Nat × Value) := l.map fun q => (q.1, tv sk ad q.2)
theorem tv_cat (sk ad : Nat → Nat) (v : Value) : (tv sk ad v).category = v.category := by cases v <;> rfl
def lk (i : Nat) : List (Nat × Value) → Option Value
  | [] => none
  | q :: l => bif Nat.beq i q.1 then some q.2 else lk i l
theorem lk_mem {i : Nat} {v : Value} : ∀ {l : List (Nat × Value)}, lk i l = some v → (i, v) ∈ l
  | [], h => by cases h
  | q :: l, h => by
    unfold lk at h
    cases hb : Nat.beq i q.1 with
    | true =>
      rw [hb] at h
      have e : i = q.1 := Nat.eq_of_beq_eq_true hb
      cases h
      rw [e]
      exact List.mem_cons_self
    | false =>
      rw [hb] at h
      exact List.mem_cons_of_mem _ (lk_mem h)
def s1 (i : Nat) (v : Value) (l : List (Nat × Value)) : List (Nat × Value) := (i, v) :: l.filter (fun q => !(q.1 == i) && !(q.1 + 1 == i && q.2.category == 2))
def s2 (i : Nat) (v : Value) (l : List (Nat × Value)) : List (Nat × Value) := (i, v) :: l.filter (fun q => !(q.1 == i) && (!(q.1 == i + 1) && !(q.1 + 1 == i && q.2.category == 2)))
theorem tl_s1 (sk ad : Nat → Nat) (i : Nat) (v : Value) (l : List (Nat × Value)) : (i, tv sk ad v) :: (tl sk ad l).filter (fun q => !(q.1 == i) && !(q.1 + 1 == i && q.2.category == 2)) = tl sk ad (s1 i v l) := by
  simp only [tl, s1, List.map_cons, List.filter_map]
  congr 2
  apply List.filter_congr
  intro q _
  simp [Function.comp, tv_cat]
theorem tl_s2 (sk ad : Nat → Nat) (i : Nat) (v : Value) (l : List (Nat × Value)) : (i, tv sk ad v) :: (tl sk ad l).filter (fun q => !(q.1 == i) && (!(q.1 == i + 1) && !(q.1 + 1 == i && q.2.category == 2))) = tl sk ad (s2 i v l) := by
  simp only [tl, s2, List.map_cons, List.filter_map]
  congr 2
  apply List.filter_congr
  intro q _
  simp [Function.comp, tv_cat]
theorem okl_s1 {h : Hp} {i : Nat} {v : Value} {l : List (Nat × Value)} (hv : okv h v) (hl : okl h l) : okl h (s1 i v l) := by
  intro q hq
  rcases List.mem_cons.mp hq with e | e
  · rw [e]; exact hv
  · exact hl q (List.mem_filter.mp e).1
theorem okl_s2 {h : Hp} {i : Nat} {v : Value} {l : List (Nat × Value)} (hv : okv h v) (hl : okl h l) : okl h (s2 i v l) := by
  intro q hq
  rcases List.mem_cons.mp hq with e | e
  · rw [e]; exact hv
  · exact hl q (List.mem_filter.mp e).1
theorem lk_at {sk ad : Nat → Nat} {ls : Array Slot} {nL i : Nat} {v : Value} {l : List (Nat × Value)} (h : lv_has ls nL (tl sk ad l)) (hv : lk i l = some v) : ls[i]? = some (.val (tv sk ad v)) :=
  h.2.2 (i, tv sk ad v) (List.mem_map.mpr ⟨(i, v), lk_mem hv, rfl⟩)
/-- the good words -/
def gTbl : List Cond := lw_tbl.filter goodWord
theorem gMem {w : Cond} (h : w ∈ lw_tbl) (g : goodWord w = true) : w ∈ gTbl := List.mem_filter.mpr ⟨h, g⟩
theorem gGood {w : Cond} (h : w ∈ gTbl) : goodWord w = true := (List.mem_filter.mp h).2
abbrev MI : Type := ByteArray × Nat × String × Bool
abbrev Cx : Type := Program × Launch × Env × Room × State × MethodId × Array Value × List Frame × Method × Code × va_G × (Nat → ClassId) × (Nat → Nat) × (Nat → Prop) × Nat × (Nat → Nat) × (State → Prop)
/-- the string constants: whose pool, where, the text; its bytes -/
def kS : List (String × Nat × String) := [("PinInn$Book", 37, "at"), ("PinInn$Book", 55, "to"), ("PinInn$HouseText", 37, "room"), ("PinInn$HouseText", 49, "guest"), ("PinInn$HouseText", 69, "in"), ("PinInn$HouseText", 54, "trunk"), ("PinInn$HouseText", 89, "to"), ("PinInn$HouseText", 59, "stove"), ("PinInn$HouseText", 74, "snow"), ("PinInn$HouseText", 76, "bound"), ("PinInn$HouseText", 79, "slide"), ("PinInn$HouseText", 81, "west"), ("PinInn$HouseText", 83, "south"), ("PinInn$Wishes", 31, "want"), ("PinInn$Wishes", 63, "not"), ("PinInn$Wishes", 76, "alone"), ("PinInn$Wishes", 78, "stove"), ("PinInn$Wishes", 80, "with"), ("PinInn$Wishes", 104, "x"), ("PinInn$Wishes", 106, "y"), ("PinInn$Wishes", 108, "far"), ("PinInn$Wishes", 110, "heads"), ("PinInn$Wishes", 112, "snow"), ("PinInn$Wishes", 114, "room"), ("PinInn$Wishes", 61, "and"), ("PinInn$Wishes", 50, "or"), ("PinInn", 93, "the text is wrong"), ("PinInn", 103, "there are 10 texts"), ("PinInn", 115, "no such guest"), ("PinInn", 147, "no such room"), ("PinInn", 184, "no such what"), ("PinInn", 190, "no such trunk"), ("PinInn", 201, "no such guest or room"), ("PinInn", 263, "no seating, or no such bell"), ("PinInn", 302, "no such weight"), ("PinInn", 324, "there are 8 readings"), ("PinInn", 335, "no such reading"), ("PinInn", 341, "no such reading or guest"), ("PinInn", 350, "not from least to most"), ("PinInn", 352, "no such night"), ("PinInn", 365, "below 0"), ("PinInn", 367, "no such base or rate"), ("PinInnModel", 134, "room"), ("PinInnModel", 140, "guest"), ("PinInnModel", 122, "in"), ("PinInnModel", 145, "trunk"), ("PinInnModel", 129, "to"), ("PinInnModel", 150, "stove"), ("PinInnModel", 155, "snow"), ("PinInnModel", 160, "bound"), ("PinInnModel", 163, "slide"), ("PinInnModel", 165, "west"), ("PinInnModel", 167, "south"), ("PinInnModel", 221, "want"), ("PinInnModel", 199, "not"), ("PinInnModel", 207, "alone"), ("PinInnModel", 209, "with"), ("PinInnModel", 180, "x"), ("PinInnModel", 182, "y"), ("PinInnModel", 184, "far"), ("PinInnModel", 185, "heads"), ("PinInnModel", 214, "and"), ("PinInnModel", 219, "or"), ("PinInnModel", 223, "at")]
def sB : List (List Int32) := [[97, 116], [116, 111], [114, 111, 111, 109], [103, 117, 101, 115, 116], [105, 110], [116, 114, 117, 110, 107], [116, 111], [115, 116, 111, 118, 101], [115, 110, 111, 119], [98, 111, 117, 110, 100], [115, 108, 105, 100, 101], [119, 101, 115, 116], [115, 111, 117, 116, 104], [119, 97, 110, 116], [110, 111, 116], [97, 108, 111, 110, 101], [115, 116, 111, 118, 101], [119, 105, 116, 104], [120], [121], [102, 97, 114], [104, 101, 97, 100, 115], [115, 110, 111, 119], [114, 111, 111, 109], [97, 110, 100], [111, 114], [116, 104, 101, 32, 116, 101, 120, 116, 32, 105, 115, 32, 119, 114, 111, 110, 103], [116, 104, 101, 114, 101, 32, 97, 114, 101, 32, 49, 48, 32, 116, 101, 120, 116, 115], [110, 111, 32, 115, 117, 99, 104, 32, 103, 117, 101, 115, 116], [110, 111, 32, 115, 117, 99, 104, 32, 114, 111, 111, 109], [110, 111, 32, 115, 117, 99, 104, 32, 119, 104, 97, 116], [110, 111, 32, 115, 117, 99, 104, 32, 116, 114, 117, 110, 107], [110, 111, 32, 115, 117, 99, 104, 32, 103, 117, 101, 115, 116, 32, 111, 114, 32, 114, 111, 111, 109], [110, 111, 32, 115, 101, 97, 116, 105, 110, 103, 44, 32, 111, 114, 32, 110, 111, 32, 115, 117, 99, 104, 32, 98, 101, 108, 108], [110, 111, 32, 115, 117, 99, 104, 32, 119, 101, 105, 103, 104, 116], [116, 104, 101, 114, 101, 32, 97, 114, 101, 32, 56, 32, 114, 101, 97, 100, 105, 110, 103, 115], [110, 111, 32, 115, 117, 99, 104, 32, 114, 101, 97, 100, 105, 110, 103], [110, 111, 32, 115, 117, 99, 104, 32, 114, 101, 97, 100, 105, 110, 103, 32, 111, 114, 32, 103, 117, 101, 115, 116], [110, 111, 116, 32, 102, 114, 111, 109, 32, 108, 101, 97, 115, 116, 32, 116, 111, 32, 109, 111, 115, 116], [110, 111, 32, 115, 117, 99, 104, 32, 110, 105, 103, 104, 116], [98, 101, 108, 111, 119, 32, 48], [110, 111, 32, 115, 117, 99, 104, 32, 98, 97, 115, 101, 32, 111, 114, 32, 114, 97, 116, 101], [114, 111, 111, 109], [103, 117, 101, 115, 116], [105, 110], [116, 114, 117, 110, 107], [116, 111], [115, 116, 111, 118, 101], [115, 110, 111, 119], [98, 111, 117, 110, 100], [115, 108, 105, 100, 101], [119, 101, 115, 116], [115, 111, 117, 116, 104], [119, 97, 110, 116], [110, 111, 116], [97, 108, 111, 110, 101], [119, 105, 116, 104], [120], [121], [102, 97, 114], [104, 101, 97, 100, 115], [97, 110, 100], [111, 114], [97, 116]]
/-- words that are carried beside the good ones -/
def nW (w : Cond) : Bool := match w with
  | .declares _ => true
  | .methodLinkNest .. => true
  | .castable .. => true
  | _ => false
/-- of the classes that are thrown: which is no kind of which -/
def ncL : List (String × String) := [("java/lang/IllegalArgumentException", "java/lang/IndexOutOfBoundsException"), ("java/lang/IllegalArgumentException", "java/lang/UnsupportedOperationException"), ("java/lang/IllegalArgumentException", "java/util/NoSuchElementException"), ("java/lang/IndexOutOfBoundsException", "java/lang/IllegalArgumentException"), ("java/lang/IndexOutOfBoundsException", "java/lang/UnsupportedOperationException"), ("java/lang/IndexOutOfBoundsException", "java/util/NoSuchElementException"), ("java/lang/UnsupportedOperationException", "java/lang/IllegalArgumentException"), ("java/lang/UnsupportedOperationException", "java/lang/IndexOutOfBoundsException"), ("java/lang/UnsupportedOperationException", "java/util/NoSuchElementException"), ("java/util/NoSuchElementException", "java/lang/IllegalArgumentException"), ("java/util/NoSuchElementException", "java/lang/IndexOutOfBoundsException"), ("java/util/NoSuchElementException", "java/lang/UnsupportedOperationException")]
def nTbl : List Cond := lw_tbl.filter nW
theorem nMem {w : Cond} (h : w ∈ lw_tbl) (g : nW w = true) : w ∈ nTbl := List.mem_filter.mpr ⟨h, g⟩
theorem nW_warm {w : Cond} {s U : State} (hn : nW w = true) (hW : s.WarmedH U.vm) (h : va_Nw w s) : va_Nw w U := by
  cases w <;> first | exact va_Nw.warmM hW h | exact va_Nw.warmD hW h | exact va_Nw.warmC hW h | cases hn
theorem nW_on {w : Cond} (hn : nW w = true) : w.onTables = true := by
  cases w <;> first | rfl | cases hn
def SKo (sk : Nat → Nat) (A : Nat → Prop) (U : State) (H : Heap) : Prop :=
  (∀ (j : Nat) (q : String × Nat × String), kS[j]? = some q → vk_R q.1 q.2.1 q.2.2 (sk j) U) ∧
  (∀ (j : Nat) (bl : List Int32), sB[j]? = some bl → va_O "java/lang/String" (sk j) A U H ∧ va_OF "java/lang/String" "coder" "B" (.int 0) (sk j) A U H ∧ va_OF "java/lang/String" "value" "[B" (.ref (sk (j + 1000))) (sk j) A U H ∧ va_T .byte (sk (j + 1000)) bl.length (fun i => .int (bl.getD i 0)) A U H) ∧
  (va_Z "jdk/internal/util/Preconditions" "SIOOBE_FORMATTER" "Ljava/util/function/BiFunction;" (.ref (sk 2000)) A U H ∨ va_Z "jdk/internal/util/Preconditions" "SIOOBE_FORMATTER" "Ljava/util/function/BiFunction;" .null A U H) ∧
  va_Z "java/lang/String" "COMPACT_STRINGS" "Z" (.int 1) A U H ∧ vx_Zq Bundle.tN "UNASSIGNED_STACK" Bundle.steD A U H ∧ vx_Zq Bundle.tN "SUPPRESSED_SENTINEL" Bundle.listD A U H ∧ (∀ w ∈ nTbl, va_Nw w U) ∧ va_AO "PinInn$Wishes" U ∧ (∀ q ∈ ncL, va_Nc q.1 q.2 U)
theorem SKo.call {sk : Nat → Nat} {A B : Nat → Prop} {s U : State} {H : Heap} {locs : List Loc} (h : SKo sk A s s.heap) (hS : va_S A s.heap H locs) (hU : U.heap = H) (hW : s.WarmedH U.vm) (hAB : ∀ q, B q → A q) : SKo sk B U U.heap := by
  obtain ⟨a1, a2, a6, a3, a4, a5, a7, a8, a9⟩ := h
  rw [hU]
  have hal := hW.alike
  refine ⟨fun j q hq => (a1 j q hq).warm hW, fun j bl hj => ?_, a6.imp (fun q => ((q.moved hal).kept hS.2.1).narrow hAB) (fun q => ((q.moved hal).kept hS.2.1).narrow hAB), ((a3.moved hal).kept hS.2.1).narrow hAB, ((a4.moved hal).kept hS.2.1).narrow hAB, ((a5.moved hal).kept hS.2.1).narrow hAB, fun w hw => nW_warm (List.mem_filter.mp hw).2 hW (a7 w hw), a8.moved hal, fun q hq => (a9 q hq).moved hal⟩
  obtain ⟨b1, b2, b3, b4⟩ := a2 j bl hj
  exact ⟨((b1.moved hal).kept hS.2.1).narrow hAB, ((b2.moved hal).kept hS.2.1).narrow hAB, ((b3.moved hal).kept hS.2.1).narrow hAB, ((b4.moved hal).kept hS.2.1).narrow hAB⟩
theorem SKo.frame {sk : Nat → Nat} {A : Nat → Prop} {U : State} {g : JFrame} {mk : MethodId} {a : Array Value} (h : SKo sk A U U.heap) : SKo sk A (U.calling g mk a) (U.calling g mk a).heap := by
  obtain ⟨a1, a2, a6, a3, a4, a5, a7, a8, a9⟩ := h
  have hal : U.vm.Alike (U.calling g mk a).vm := Vm.Alike.refl U.vm
  refine ⟨fun j q hq => (a1 j q hq).same rfl, fun j bl hj => ?_, a6.imp (fun q => q.moved hal) (fun q => q.moved hal), a3.moved hal, a4.moved hal, a5.moved hal, fun w hw => va_Nw.same (u := U) (U := U.calling g mk a) (nW_on (List.mem_filter.mp hw).2) rfl (a7 w hw), a8.moved hal, fun q hq => (a9 q hq).moved hal⟩
  obtain ⟨b1, b2, b3, b4⟩ := a2 j bl hj
  exact ⟨b1.moved hal, b2.moved hal, b3.moved hal, b4.moved hal⟩
/-- what holds of a method's start: the machine, its code, the tables' words, the classes, the string constants -/
def CxOk (M : MI) (x : Cx) : Prop := match x with
  | (p, _, _, _, s, m, args, _, meth, c, D, cy, sk, A, _, _, _) => p.tables.exec = Jvm.exec ∧ c.code = M.1 ∧ c.maxLocals = M.2.1 ∧ s.vm.findClass M.2.2.1 = some m.cls ∧ (∀ w ∈ gTbl, w.before args s = true) ∧ va_K D vwCl (tys cy) s ∧ (∀ q, s.heap.size ≤ q → A q) ∧ meth.locks = false ∧ SKo sk A s s.heap ∧ (M.2.2.2 = true → meth.name = "<init>")
def Rl (cy : Nat → ClassId) (D : va_G) (A : Nat → Prop) (n0 : Nat) (ad0 : Nat → Nat) (H0 : Heap) (h : Hp) (ad : Nat → Nat) (H : Heap) (locs : List Loc) : Prop := va_P D vwCl (wl cy h ad) H ∧ va_D A (wl cy h ad) ∧ va_S A H0 H locs ∧ wf h ∧ n0 ≤ zN h ∧ ∀ a, a < n0 → ad a = ad0 a
def V (M : MI) (x : Cx) (d pc : Nat) (lv : List (Nat × Value)) (st : List Value) (h : Hp) (bc bs : Nat) : Prop := match x with
  | (p, l, e, R, s, m, args, below, meth, c, D, cy, sk, A, n0, ad0, Q) => CxOk M (p, l, e, R, s, m, args, below, meth, c, D, cy, sk, A, n0, ad0, Q) → d ≤ R.frames → 64 * d ≤ R.locals → ∀ (ad : Nat → Nat) (H : Heap) (locs : List Loc) (ls : Array Slot) (cells slots : Nat), Rl cy D A n0 ad0 s.heap h ad H locs → lv_has ls M.2.1 (tl sk ad lv) → okl h lv → oks h st → cells + bc ≤ R.cells → slots + bs ≤ R.slots → W p l e R s m args below meth c H locs cells slots Q (F0 m pc ls (st.map (tv sk ad)))
section VROWS
variable {M : MI} {x : Cx} {d pc : Nat} {lv lv' : List (Nat × Value)} {st : List Value} {h : Hp} {bc bs : Nat}

theorem V_iconst {n : Int} {v : Int32} (hd : decode M.1 pc = .ok (.iconst n, 1)) (hv : Int32.ofInt n = v) (k : V M x d (pc + 1) lv (.int v :: st) h bc bs) : V M x d pc lv st h bc bs := by
  obtain ⟨p, l, e, R, s, m, args, below, meth, c, D, cy, sk, A, n0, ad0, Q⟩ := x
  intro X hf hlc ad H locs ls cells slots hR hl ol os h1 h2
  exact lv_iconst X.1 X.2.1 hd hv (k X hf hlc ad H locs ls cells slots hR hl ol ⟨trivial, os⟩ h1 h2)

theorem V_bipush {n : Int} {v : Int32} (hd : decode M.1 pc = .ok (.bipush n, 2)) (hv : (Int8.ofInt n).toInt32 = v) (k : V M x d (pc + 2) lv (.int v :: st) h bc bs) : V M x d pc lv st h bc bs := by
  obtain ⟨p, l, e, R, s, m, args, below, meth, c, D, cy, sk, A, n0, ad0, Q⟩ := x
  intro X hf hlc ad H locs ls cells slots hR hl ol os h1 h2
  exact lv_bipush X.1 X.2.1 hd hv (k X hf hlc ad H locs ls cells slots hR hl ol ⟨trivial, os⟩ h1 h2)

theorem V_sipush {n : Int} {v : Int32} (hd : decode M.1 pc = .ok (.sipush n, 3)) (hv : (Int16.ofInt n).toInt32 = v) (k : V M x d (pc + 3) lv (.int v :: st) h bc bs) : V M x d pc lv st h bc bs := by
  obtain ⟨p, l, e, R, s, m, args, below, meth, c, D, cy, sk, A, n0, ad0, Q⟩ := x
  intro X hf hlc ad H locs ls cells slots hR hl ol os h1 h2
  exact lv_sipush X.1 X.2.1 hd hv (k X hf hlc ad H locs ls cells slots hR hl ol ⟨trivial, os⟩ h1 h2)

theorem V_iload {i : Nat} {v : Int32} (hd : decode M.1 pc = .ok (.iload i, 2)) (hv : lk i lv = some (.int v)) (k : V M x d (pc + 2) lv (.int v :: st) h bc bs) : V M x d pc lv st h bc bs := by
  obtain ⟨p, l, e, R, s, m, args, below, meth, c, D, cy, sk, A, n0, ad0, Q⟩ := x
  intro X hf hlc ad H locs ls cells slots hR hl ol os h1 h2
  exact lv_iload X.1 X.2.1 hd (lk_at hl hv) (k X hf hlc ad H locs ls cells slots hR hl ol ⟨trivial, os⟩ h1 h2)

theorem V_iload_n {j : Fin 4} {i : Nat} {v : Int32} (hd : decode M.1 pc = .ok (.iload_n j, 1)) (hi : (j : Nat) = i) (hv : lk i lv = some (.int v)) (k : V M x d (pc + 1) lv (.int v :: st) h bc bs) : V M x d pc lv st h bc bs := by
  obtain ⟨p, l, e, R, s, m, args, below, meth, c, D, cy, sk, A, n0, ad0, Q⟩ := x
  intro X hf hlc ad H locs ls cells slots hR hl ol os h1 h2
  exact lv_iload_n X.1 X.2.1 hd hi (lk_at hl hv) (k X hf hlc ad H locs ls cells slots hR hl ol ⟨trivial, os⟩ h1 h2)

theorem V_lload {i : Nat} {v : Int64} (hd : decode M.1 pc = .ok (.lload i, 2)) (hv : lk i lv = some (.long v)) (k : V M x d (pc + 2) lv (.long v :: st) h bc bs) : V M x d pc lv st h bc bs := by
  obtain ⟨p, l, e, R, s, m, args, below, meth, c, D, cy, sk, A, n0, ad0, Q⟩ := x
  intro X hf hlc ad H locs ls cells slots hR hl ol os h1 h2
  exact lv_lload X.1 X.2.1 hd (lk_at hl hv) (k X hf hlc ad H locs ls cells slots hR hl ol ⟨trivial, os⟩ h1 h2)

theorem V_lload_n {j : Fin 4} {i : Nat} {v : Int64} (hd : decode M.1 pc = .ok (.lload_n j, 1)) (hi : (j : Nat) = i) (hv : lk i lv = some (.long v)) (k : V M x d (pc + 1) lv (.long v :: st) h bc bs) : V M x d pc lv st h bc bs := by
  obtain ⟨p, l, e, R, s, m, args, below, meth, c, D, cy, sk, A, n0, ad0, Q⟩ := x
  intro X hf hlc ad H locs ls cells slots hR hl ol os h1 h2
  exact lv_lload_n X.1 X.2.1 hd hi (lk_at hl hv) (k X hf hlc ad H locs ls cells slots hR hl ol ⟨trivial, os⟩ h1 h2)

theorem V_aload {i a : Nat} (hd : decode M.1 pc = .ok (.aload i, 2)) (hv : lk i lv = some (.ref a)) (k : V M x d (pc + 2) lv (.ref a :: st) h bc bs) : V M x d pc lv st h bc bs := by
  obtain ⟨p, l, e, R, s, m, args, below, meth, c, D, cy, sk, A, n0, ad0, Q⟩ := x
  intro X hf hlc ad H locs ls cells slots hR hl ol os h1 h2
  exact lv_aload X.1 X.2.1 hd (lk_at hl hv) (k X hf hlc ad H locs ls cells slots hR hl ol ⟨ol _ (lk_mem hv), os⟩ h1 h2)

theorem V_aload_n {j : Fin 4} {i a : Nat} (hd : decode M.1 pc = .ok (.aload_n j, 1)) (hi : (j : Nat) = i) (hv : lk i lv = some (.ref a)) (k : V M x d (pc + 1) lv (.ref a :: st) h bc bs) : V M x d pc lv st h bc bs := by
  obtain ⟨p, l, e, R, s, m, args, below, meth, c, D, cy, sk, A, n0, ad0, Q⟩ := x
  intro X hf hlc ad H locs ls cells slots hR hl ol os h1 h2
  exact lv_aload_n X.1 X.2.1 hd hi (lk_at hl hv) (k X hf hlc ad H locs ls cells slots hR hl ol ⟨ol _ (lk_mem hv), os⟩ h1 h2)

theorem V_saload {i : Nat} {a : UInt32} (hd : decode M.1 pc = .ok (.aload i, 2)) (hv : lk i lv = some (.float a)) (k : V M x d (pc + 2) lv (.float a :: st) h bc bs) : V M x d pc lv st h bc bs := by
  obtain ⟨p, l, e, R, s, m, args, below, meth, c, D, cy, sk, A, n0, ad0, Q⟩ := x
  intro X hf hlc ad H locs ls cells slots hR hl ol os h1 h2
  exact lv_aload X.1 X.2.1 hd (lk_at hl hv) (k X hf hlc ad H locs ls cells slots hR hl ol ⟨trivial, os⟩ h1 h2)

theorem V_saload_n {j : Fin 4} {i : Nat} {a : UInt32} (hd : decode M.1 pc = .ok (.aload_n j, 1)) (hi : (j : Nat) = i) (hv : lk i lv = some (.float a)) (k : V M x d (pc + 1) lv (.float a :: st) h bc bs) : V M x d pc lv st h bc bs := by
  obtain ⟨p, l, e, R, s, m, args, below, meth, c, D, cy, sk, A, n0, ad0, Q⟩ := x
  intro X hf hlc ad H locs ls cells slots hR hl ol os h1 h2
  exact lv_aload_n X.1 X.2.1 hd hi (lk_at hl hv) (k X hf hlc ad H locs ls cells slots hR hl ol ⟨trivial, os⟩ h1 h2)

theorem V_istore {i : Nat} {v : Int32} (hd : decode M.1 pc = .ok (.istore i, 2)) (hn : i < M.2.1) (hs : s1 i (.int v) lv = lv') (k : V M x d (pc + 2) lv' st h bc bs) : V M x d pc lv (.int v :: st) h bc bs := by
  obtain ⟨p, l, e, R, s, m, args, below, meth, c, D, cy, sk, A, n0, ad0, Q⟩ := x
  intro X hf hlc ad H locs ls cells slots hR hl ol os h1 h2
  subst hs
  exact lv_istore X.1 X.2.1 hd hl hn (tl_s1 sk ad i (.int v) lv) (fun ls' hl' => k X hf hlc ad H locs ls' cells slots hR hl' (okl_s1 os.1 ol) os.2 h1 h2)

theorem V_istore_n {j : Fin 4} {i : Nat} {v : Int32} (hd : decode M.1 pc = .ok (.istore_n j, 1)) (hi : (j : Nat) = i) (hn : i < M.2.1) (hs : s1 i (.int v) lv = lv') (k : V M x d (pc + 1) lv' st h bc bs) : V M x d pc lv (.int v :: st) h bc bs := by
  obtain ⟨p, l, e, R, s, m, args, below, meth, c, D, cy, sk, A, n0, ad0, Q⟩ := x
  intro X hf hlc ad H locs ls cells slots hR hl ol os h1 h2
  subst hs
  exact lv_istore_n X.1 X.2.1 hd hi hl hn (tl_s1 sk ad i (.int v) lv) (fun ls' hl' => k X hf hlc ad H locs ls' cells slots hR hl' (okl_s1 os.1 ol) os.2 h1 h2)

theorem V_astore {i : Nat} {v : Nat} (hd : decode M.1 pc = .ok (.astore i, 2)) (hn : i < M.2.1) (hs : s1 i (.ref v) lv = lv') (k : V M x d (pc + 2) lv' st h bc bs) : V M x d pc lv (.ref v :: st) h bc bs := by
  obtain ⟨p, l, e, R, s, m, args, below, meth, c, D, cy, sk, A, n0, ad0, Q⟩ := x
  intro X hf hlc ad H locs ls cells slots hR hl ol os h1 h2
  subst hs
  exact lv_astore X.1 X.2.1 hd hl hn (tl_s1 sk ad i (.ref v) lv) (fun ls' hl' => k X hf hlc ad H locs ls' cells slots hR hl' (okl_s1 os.1 ol) os.2 h1 h2)

theorem V_astore_n {j : Fin 4} {i : Nat} {v : Nat} (hd : decode M.1 pc = .ok (.astore_n j, 1)) (hi : (j : Nat) = i) (hn : i < M.2.1) (hs : s1 i (.ref v) lv = lv') (k : V M x d (pc + 1) lv' st h bc bs) : V M x d pc lv (.ref v :: st) h bc bs := by
  obtain ⟨p, l, e, R, s, m, args, below, meth, c, D, cy, sk, A, n0, ad0, Q⟩ := x
  intro X hf hlc ad H locs ls cells slots hR hl ol os h1 h2
  subst hs
  exact lv_astore_n X.1 X.2.1 hd hi hl hn (tl_s1 sk ad i (.ref v) lv) (fun ls' hl' => k X hf hlc ad H locs ls' cells slots hR hl' (okl_s1 os.1 ol) os.2 h1 h2)

theorem V_lstore {i : Nat} {v : Int64} (hd : decode M.1 pc = .ok (.lstore i, 2)) (hn : i + 1 < M.2.1) (hs : s2 i (.long v) lv = lv') (k : V M x d (pc + 2) lv' st h bc bs) : V M x d pc lv (.long v :: st) h bc bs := by
  obtain ⟨p, l, e, R, s, m, args, below, meth, c, D, cy, sk, A, n0, ad0, Q⟩ := x
  intro X hf hlc ad H locs ls cells slots hR hl ol os h1 h2
  subst hs
  exact lv_lstore X.1 X.2.1 hd hl hn (tl_s2 sk ad i (.long v) lv) (fun ls' hl' => k X hf hlc ad H locs ls' cells slots hR hl' (okl_s2 os.1 ol) os.2 h1 h2)

theorem V_lstore_n {j : Fin 4} {i : Nat} {v : Int64} (hd : decode M.1 pc = .ok (.lstore_n j, 1)) (hi : (j : Nat) = i) (hn : i + 1 < M.2.1) (hs : s2 i (.long v) lv = lv') (k : V M x d (pc + 1) lv' st h bc bs) : V M x d pc lv (.long v :: st) h bc bs := by
  obtain ⟨p, l, e, R, s, m, args, below, meth, c, D, cy, sk, A, n0, ad0, Q⟩ := x
  intro X hf hlc ad H locs ls cells slots hR hl ol os h1 h2
  subst hs
  exact lv_lstore_n X.1 X.2.1 hd hi hl hn (tl_s2 sk ad i (.long v) lv) (fun ls' hl' => k X hf hlc ad H locs ls' cells slots hR hl' (okl_s2 os.1 ol) os.2 h1 h2)

theorem V_iinc {i : Nat} {n : Int} {v u : Int32} (hd : decode M.1 pc = .ok (.iinc i n, 3)) (hv : lk i lv = some (.int v)) (hu : v + Int32.ofInt n = u) (hn : i < M.2.1) (hs : s1 i (.int u) lv = lv') (k : V M x d (pc + 3) lv' st h bc bs) : V M x d pc lv st h bc bs := by
  obtain ⟨p, l, e, R, s, m, args, below, meth, c, D, cy, sk, A, n0, ad0, Q⟩ := x
  intro X hf hlc ad H locs ls cells slots hR hl ol os h1 h2
  subst hs
  obtain ⟨j, hj⟩ := List.getElem?_of_mem (List.mem_map.mpr ⟨(i, .int v), lk_mem hv, rfl⟩ : (i, tv sk ad (.int v)) ∈ tl sk ad lv)
  exact lv_iinc X.1 X.2.1 hd hl hj hu hn (tl_s1 sk ad i (.int u) lv) (fun ls' hl' => k X hf hlc ad H locs ls' cells slots hR hl' (okl_s1 trivial ol) os h1 h2)

theorem V_iadd {a b : Int32} (hd : decode M.1 pc = .ok (.iadd, 1)) (k : V M x d (pc + 1) lv (.int (a + b) :: st) h bc bs) : V M x d pc lv (.int b :: .int a :: st) h bc bs := by
  obtain ⟨p, l, e, R, s, m, args, below, meth, c, D, cy, sk, A, n0, ad0, Q⟩ := x
  intro X hf hlc ad H locs ls cells slots hR hl ol os h1 h2
  exact lv_iadd X.1 X.2.1 hd (k X hf hlc ad H locs ls cells slots hR hl ol ⟨trivial, os.2.2⟩ h1 h2)

theorem V_isub {a b : Int32} (hd : decode M.1 pc = .ok (.isub, 1)) (k : V M x d (pc + 1) lv (.int (a - b) :: st) h bc bs) : V M x d pc lv (.int b :: .int a :: st) h bc bs := by
  obtain ⟨p, l, e, R, s, m, args, below, meth, c, D, cy, sk, A, n0, ad0, Q⟩ := x
  intro X hf hlc ad H locs ls cells slots hR hl ol os h1 h2
  exact lv_isub X.1 X.2.1 hd (k X hf hlc ad H locs ls cells slots hR hl ol ⟨trivial, os.2.2⟩ h1 h2)

theorem V_imul {a b : Int32} (hd : decode M.1 pc = .ok (.imul, 1)) (k : V M x d (pc + 1) lv (.int (a * b) :: st) h bc bs) : V M x d pc lv (.int b :: .int a :: st) h bc bs := by
  obtain ⟨p, l, e, R, s, m, args, below, meth, c, D, cy, sk, A, n0, ad0, Q⟩ := x
  intro X hf hlc ad H locs ls cells slots hR hl ol os h1 h2
  exact lv_imul X.1 X.2.1 hd (k X hf hlc ad H locs ls cells slots hR hl ol ⟨trivial, os.2.2⟩ h1 h2)

theorem V_iand {a b : Int32} (hd : decode M.1 pc = .ok (.iand, 1)) (k : V M x d (pc + 1) lv (.int (a &&& b) :: st) h bc bs) : V M x d pc lv (.int b :: .int a :: st) h bc bs := by
  obtain ⟨p, l, e, R, s, m, args, below, meth, c, D, cy, sk, A, n0, ad0, Q⟩ := x
  intro X hf hlc ad H locs ls cells slots hR hl ol os h1 h2
  exact lv_iand X.1 X.2.1 hd (k X hf hlc ad H locs ls cells slots hR hl ol ⟨trivial, os.2.2⟩ h1 h2)

theorem V_ior {a b : Int32} (hd : decode M.1 pc = .ok (.ior, 1)) (k : V M x d (pc + 1) lv (.int (a ||| b) :: st) h bc bs) : V M x d pc lv (.int b :: .int a :: st) h bc bs := by
  obtain ⟨p, l, e, R, s, m, args, below, meth, c, D, cy, sk, A, n0, ad0, Q⟩ := x
  intro X hf hlc ad H locs ls cells slots hR hl ol os h1 h2
  exact lv_ior X.1 X.2.1 hd (k X hf hlc ad H locs ls cells slots hR hl ol ⟨trivial, os.2.2⟩ h1 h2)

theorem V_ixor {a b : Int32} (hd : decode M.1 pc = .ok (.ixor, 1)) (k : V M x d (pc + 1) lv (.int (a ^^^ b) :: st) h bc bs) : V M x d pc lv (.int b :: .int a :: st) h bc bs := by
  obtain ⟨p, l, e, R, s, m, args, below, meth, c, D, cy, sk, A, n0, ad0, Q⟩ := x
  intro X hf hlc ad H locs ls cells slots hR hl ol os h1 h2
  exact lv_ixor X.1 X.2.1 hd (k X hf hlc ad H locs ls cells slots hR hl ol ⟨trivial, os.2.2⟩ h1 h2)

theorem V_ishl {a b : Int32} (hd : decode M.1 pc = .ok (.ishl, 1)) (k : V M x d (pc + 1) lv (.int (a <<< (b &&& 31)) :: st) h bc bs) : V M x d pc lv (.int b :: .int a :: st) h bc bs := by
  obtain ⟨p, l, e, R, s, m, args, below, meth, c, D, cy, sk, A, n0, ad0, Q⟩ := x
  intro X hf hlc ad H locs ls cells slots hR hl ol os h1 h2
  exact lv_ishl X.1 X.2.1 hd (k X hf hlc ad H locs ls cells slots hR hl ol ⟨trivial, os.2.2⟩ h1 h2)

theorem V_ishr {a b : Int32} (hd : decode M.1 pc = .ok (.ishr, 1)) (k : V M x d (pc + 1) lv (.int (a >>> (b &&& 31)) :: st) h bc bs) : V M x d pc lv (.int b :: .int a :: st) h bc bs := by
  obtain ⟨p, l, e, R, s, m, args, below, meth, c, D, cy, sk, A, n0, ad0, Q⟩ := x
  intro X hf hlc ad H locs ls cells slots hR hl ol os h1 h2
  exact lv_ishr X.1 X.2.1 hd (k X hf hlc ad H locs ls cells slots hR hl ol ⟨trivial, os.2.2⟩ h1 h2)

theorem V_idiv {a b : Int32} (hd : decode M.1 pc = .ok (.idiv, 1)) (hb : ¬ b = 0) (k : V M x d (pc + 1) lv (.int (a / b) :: st) h bc bs) : V M x d pc lv (.int b :: .int a :: st) h bc bs := by
  obtain ⟨p, l, e, R, s, m, args, below, meth, c, D, cy, sk, A, n0, ad0, Q⟩ := x
  intro X hf hlc ad H locs ls cells slots hR hl ol os h1 h2
  exact lv_idiv X.1 X.2.1 hd hb (k X hf hlc ad H locs ls cells slots hR hl ol ⟨trivial, os.2.2⟩ h1 h2)

theorem V_irem {a b : Int32} (hd : decode M.1 pc = .ok (.irem, 1)) (hb : ¬ b = 0) (k : V M x d (pc + 1) lv (.int (a - a / b * b) :: st) h bc bs) : V M x d pc lv (.int b :: .int a :: st) h bc bs := by
  obtain ⟨p, l, e, R, s, m, args, below, meth, c, D, cy, sk, A, n0, ad0, Q⟩ := x
  intro X hf hlc ad H locs ls cells slots hR hl ol os h1 h2
  exact lv_irem X.1 X.2.1 hd hb (k X hf hlc ad H locs ls cells slots hR hl ol ⟨trivial, os.2.2⟩ h1 h2)

theorem V_iushr {a b : Int32} (hd : decode M.1 pc = .ok (.iushr, 1)) (k : V M x d (pc + 1) lv (.int (a.toUInt32 >>> (b.toUInt32 &&& Int32.toUInt32 31)).toInt32 :: st) h bc bs) : V M x d pc lv (.int b :: .int a :: st) h bc bs := by
  obtain ⟨p, l, e, R, s, m, args, below, meth, c, D, cy, sk, A, n0, ad0, Q⟩ := x
  intro X hf hlc ad H locs ls cells slots hR hl ol os h1 h2
  exact lv_iushr X.1 X.2.1 hd rfl (k X hf hlc ad H locs ls cells slots hR hl ol ⟨trivial, os.2.2⟩ h1 h2)

theorem V_ineg {a : Int32} (hd : decode M.1 pc = .ok (.ineg, 1)) (k : V M x d (pc + 1) lv (.int (0 - a) :: st) h bc bs) : V M x d pc lv (.int a :: st) h bc bs := by
  obtain ⟨p, l, e, R, s, m, args, below, meth, c, D, cy, sk, A, n0, ad0, Q⟩ := x
  intro X hf hlc ad H locs ls cells slots hR hl ol os h1 h2
  exact lv_ineg X.1 X.2.1 hd (k X hf hlc ad H locs ls cells slots hR hl ol ⟨trivial, os.2⟩ h1 h2)

theorem V_i2l {a : Int32} (hd : decode M.1 pc = .ok (.i2l, 1)) (k : V M x d (pc + 1) lv (.long a.toInt64 :: st) h bc bs) : V M x d pc lv (.int a :: st) h bc bs := by
  obtain ⟨p, l, e, R, s, m, args, below, meth, c, D, cy, sk, A, n0, ad0, Q⟩ := x
  intro X hf hlc ad H locs ls cells slots hR hl ol os h1 h2
  exact lv_i2l X.1 X.2.1 hd rfl (k X hf hlc ad H locs ls cells slots hR hl ol ⟨trivial, os.2⟩ h1 h2)

theorem V_l2i {a : Int64} (hd : decode M.1 pc = .ok (.l2i, 1)) (k : V M x d (pc + 1) lv (.int a.toInt32 :: st) h bc bs) : V M x d pc lv (.long a :: st) h bc bs := by
  obtain ⟨p, l, e, R, s, m, args, below, meth, c, D, cy, sk, A, n0, ad0, Q⟩ := x
  intro X hf hlc ad H locs ls cells slots hR hl ol os h1 h2
  exact lv_l2i X.1 X.2.1 hd rfl (k X hf hlc ad H locs ls cells slots hR hl ol ⟨trivial, os.2⟩ h1 h2)

theorem V_i2b {a : Int32} (hd : decode M.1 pc = .ok (.i2b, 1)) (k : V M x d (pc + 1) lv (.int a.toInt8.toInt32 :: st) h bc bs) : V M x d pc lv (.int a :: st) h bc bs := by
  obtain ⟨p, l, e, R, s, m, args, below, meth, c, D, cy, sk, A, n0, ad0, Q⟩ := x
  intro X hf hlc ad H locs ls cells slots hR hl ol os h1 h2
  exact lv_i2b X.1 X.2.1 hd rfl (k X hf hlc ad H locs ls cells slots hR hl ol ⟨trivial, os.2⟩ h1 h2)

theorem V_lsub {a b : Int64} (hd : decode M.1 pc = .ok (.lsub, 1)) (k : V M x d (pc + 1) lv (.long (a - b) :: st) h bc bs) : V M x d pc lv (.long b :: .long a :: st) h bc bs := by
  obtain ⟨p, l, e, R, s, m, args, below, meth, c, D, cy, sk, A, n0, ad0, Q⟩ := x
  intro X hf hlc ad H locs ls cells slots hR hl ol os h1 h2
  exact lv_lsub X.1 X.2.1 hd (k X hf hlc ad H locs ls cells slots hR hl ol ⟨trivial, os.2.2⟩ h1 h2)

theorem V_lmul {a b : Int64} (hd : decode M.1 pc = .ok (.lmul, 1)) (k : V M x d (pc + 1) lv (.long (a * b) :: st) h bc bs) : V M x d pc lv (.long b :: .long a :: st) h bc bs := by
  obtain ⟨p, l, e, R, s, m, args, below, meth, c, D, cy, sk, A, n0, ad0, Q⟩ := x
  intro X hf hlc ad H locs ls cells slots hR hl ol os h1 h2
  exact lv_lmul X.1 X.2.1 hd (k X hf hlc ad H locs ls cells slots hR hl ol ⟨trivial, os.2.2⟩ h1 h2)

theorem V_ldiv {a b : Int64} (hd : decode M.1 pc = .ok (.ldiv, 1)) (hb : ¬ b = 0) (k : V M x d (pc + 1) lv (.long (a / b) :: st) h bc bs) : V M x d pc lv (.long b :: .long a :: st) h bc bs := by
  obtain ⟨p, l, e, R, s, m, args, below, meth, c, D, cy, sk, A, n0, ad0, Q⟩ := x
  intro X hf hlc ad H locs ls cells slots hR hl ol os h1 h2
  exact lv_ldiv X.1 X.2.1 hd hb (k X hf hlc ad H locs ls cells slots hR hl ol ⟨trivial, os.2.2⟩ h1 h2)

theorem V_lrem {a b : Int64} (hd : decode M.1 pc = .ok (.lrem, 1)) (hb : ¬ b = 0) (k : V M x d (pc + 1) lv (.long (a - a / b * b) :: st) h bc bs) : V M x d pc lv (.long b :: .long a :: st) h bc bs := by
  obtain ⟨p, l, e, R, s, m, args, below, meth, c, D, cy, sk, A, n0, ad0, Q⟩ := x
  intro X hf hlc ad H locs ls cells slots hR hl ol os h1 h2
  exact lv_lrem X.1 X.2.1 hd hb (k X hf hlc ad H locs ls cells slots hR hl ol ⟨trivial, os.2.2⟩ h1 h2)

theorem V_lconst {n : Fin 2} {v : Int64} (hd : decode M.1 pc = .ok (.lconst n, 1)) (hv : Int64.ofNat (n : Nat) = v) (k : V M x d (pc + 1) lv (.long v :: st) h bc bs) : V M x d pc lv st h bc bs := by
  obtain ⟨p, l, e, R, s, m, args, below, meth, c, D, cy, sk, A, n0, ad0, Q⟩ := x
  intro X hf hlc ad H locs ls cells slots hR hl ol os h1 h2
  exact lv_lconst X.1 X.2.1 hd hv (k X hf hlc ad H locs ls cells slots hR hl ol ⟨trivial, os⟩ h1 h2)

theorem V_dup {v : Value} (hd : decode M.1 pc = .ok (.dup, 1)) (hv : v.category = 1) (k : V M x d (pc + 1) lv (v :: v :: st) h bc bs) : V M x d pc lv (v :: st) h bc bs := by
  obtain ⟨p, l, e, R, s, m, args, below, meth, c, D, cy, sk, A, n0, ad0, Q⟩ := x
  intro X hf hlc ad H locs ls cells slots hR hl ol os h1 h2
  exact lv_dup X.1 X.2.1 hd ((tv_cat sk ad v).trans hv) (k X hf hlc ad H locs ls cells slots hR hl ol ⟨os.1, os⟩ h1 h2)

theorem V_pop {v : Value} (hd : decode M.1 pc = .ok (.pop, 1)) (hv : v.category = 1) (k : V M x d (pc + 1) lv st h bc bs) : V M x d pc lv (v :: st) h bc bs := by
  obtain ⟨p, l, e, R, s, m, args, below, meth, c, D, cy, sk, A, n0, ad0, Q⟩ := x
  intro X hf hlc ad H locs ls cells slots hR hl ol os h1 h2
  exact lv_pop X.1 X.2.1 hd ((tv_cat sk ad v).trans hv) (k X hf hlc ad H locs ls cells slots hR hl ol os.2 h1 h2)

theorem V_dup2 {v u : Value} (hd : decode M.1 pc = .ok (.dup2, 1)) (hv : v.category = 1) (hu : u.category = 1) (k : V M x d (pc + 1) lv (v :: u :: v :: u :: st) h bc bs) : V M x d pc lv (v :: u :: st) h bc bs := by
  obtain ⟨p, l, e, R, s, m, args, below, meth, c, D, cy, sk, A, n0, ad0, Q⟩ := x
  intro X hf hlc ad H locs ls cells slots hR hl ol os h1 h2
  exact lv_dup2_11 X.1 X.2.1 hd ((tv_cat sk ad v).trans hv) ((tv_cat sk ad u).trans hu) (k X hf hlc ad H locs ls cells slots hR hl ol ⟨os.1, os.2.1, os⟩ h1 h2)

theorem V_icmp_eq {a b : Int32} {off : Int} {tgt : Nat} (hd : decode M.1 pc = .ok (.if_icmp .eq off, 3)) (ht : (pc : Int) + off = (tgt : Int)) (kt : a = b → V M x d tgt lv st h bc bs) (kf : ¬ (a = b) → V M x d (pc + 3) lv st h bc bs)  : V M x d pc lv (.int b :: .int a :: st) h bc bs := by
  obtain ⟨p, l, e, R, s, m, args, below, meth, c, D, cy, sk, A, n0, ad0, Q⟩ := x
  intro X hf hlc ad H locs ls cells slots hR hl ol os h1 h2
  exact lv_icmp_eq X.1 X.2.1 hd ht (fun q => kt q X hf hlc ad H locs ls cells slots hR hl ol os.2.2 h1 h2) (fun q => kf q X hf hlc ad H locs ls cells slots hR hl ol os.2.2 h1 h2)

theorem V_if_eq {a : Int32} {off : Int} {tgt : Nat} (hd : decode M.1 pc = .ok (.ifCond .eq off, 3)) (ht : (pc : Int) + off = (tgt : Int)) (kt : a = 0 → V M x d tgt lv st h bc bs) (kf : ¬ (a = 0) → V M x d (pc + 3) lv st h bc bs)  : V M x d pc lv (.int a :: st) h bc bs := by
  obtain ⟨p, l, e, R, s, m, args, below, meth, c, D, cy, sk, A, n0, ad0, Q⟩ := x
  intro X hf hlc ad H locs ls cells slots hR hl ol os h1 h2
  exact lv_if_eq X.1 X.2.1 hd ht (fun q => kt q X hf hlc ad H locs ls cells slots hR hl ol os.2 h1 h2) (fun q => kf q X hf hlc ad H locs ls cells slots hR hl ol os.2 h1 h2)

theorem V_icmp_ne {a b : Int32} {off : Int} {tgt : Nat} (hd : decode M.1 pc = .ok (.if_icmp .ne off, 3)) (ht : (pc : Int) + off = (tgt : Int)) (kt : ¬ a = b → V M x d tgt lv st h bc bs) (kf : a = b → V M x d (pc + 3) lv st h bc bs)  : V M x d pc lv (.int b :: .int a :: st) h bc bs := by
  obtain ⟨p, l, e, R, s, m, args, below, meth, c, D, cy, sk, A, n0, ad0, Q⟩ := x
  intro X hf hlc ad H locs ls cells slots hR hl ol os h1 h2
  exact lv_icmp_ne X.1 X.2.1 hd ht (fun q => kt q X hf hlc ad H locs ls cells slots hR hl ol os.2.2 h1 h2) (fun q => kf q X hf hlc ad H locs ls cells slots hR hl ol os.2.2 h1 h2)

theorem V_if_ne {a : Int32} {off : Int} {tgt : Nat} (hd : decode M.1 pc = .ok (.ifCond .ne off, 3)) (ht : (pc : Int) + off = (tgt : Int)) (kt : ¬ a = 0 → V M x d tgt lv st h bc bs) (kf : a = 0 → V M x d (pc + 3) lv st h bc bs)  : V M x d pc lv (.int a :: st) h bc bs := by
  obtain ⟨p, l, e, R, s, m, args, below, meth, c, D, cy, sk, A, n0, ad0, Q⟩ := x
  intro X hf hlc ad H locs ls cells slots hR hl ol os h1 h2
  exact lv_if_ne X.1 X.2.1 hd ht (fun q => kt q X hf hlc ad H locs ls cells slots hR hl ol os.2 h1 h2) (fun q => kf q X hf hlc ad H locs ls cells slots hR hl ol os.2 h1 h2)

theorem V_icmp_lt {a b : Int32} {off : Int} {tgt : Nat} (hd : decode M.1 pc = .ok (.if_icmp .lt off, 3)) (ht : (pc : Int) + off = (tgt : Int)) (kt : a < b → V M x d tgt lv st h bc bs) (kf : ¬ (a < b) → V M x d (pc + 3) lv st h bc bs)  : V M x d pc lv (.int b :: .int a :: st) h bc bs := by
  obtain ⟨p, l, e, R, s, m, args, below, meth, c, D, cy, sk, A, n0, ad0, Q⟩ := x
  intro X hf hlc ad H locs ls cells slots hR hl ol os h1 h2
  exact lv_icmp_lt X.1 X.2.1 hd ht (fun q => kt q X hf hlc ad H locs ls cells slots hR hl ol os.2.2 h1 h2) (fun q => kf q X hf hlc ad H locs ls cells slots hR hl ol os.2.2 h1 h2)

theorem V_if_lt {a : Int32} {off : Int} {tgt : Nat} (hd : decode M.1 pc = .ok (.ifCond .lt off, 3)) (ht : (pc : Int) + off = (tgt : Int)) (kt : a < 0 → V M x d tgt lv st h bc bs) (kf : ¬ (a < 0) → V M x d (pc + 3) lv st h bc bs)  : V M x d pc lv (.int a :: st) h bc bs := by
  obtain ⟨p, l, e, R, s, m, args, below, meth, c, D, cy, sk, A, n0, ad0, Q⟩ := x
  intro X hf hlc ad H locs ls cells slots hR hl ol os h1 h2
  exact lv_if_lt X.1 X.2.1 hd ht (fun q => kt q X hf hlc ad H locs ls cells slots hR hl ol os.2 h1 h2) (fun q => kf q X hf hlc ad H locs ls cells slots hR hl ol os.2 h1 h2)

theorem V_icmp_ge {a b : Int32} {off : Int} {tgt : Nat} (hd : decode M.1 pc = .ok (.if_icmp .ge off, 3)) (ht : (pc : Int) + off = (tgt : Int)) (kt : b ≤ a → V M x d tgt lv st h bc bs) (kf : ¬ (b ≤ a) → V M x d (pc + 3) lv st h bc bs)  : V M x d pc lv (.int b :: .int a :: st) h bc bs := by
  obtain ⟨p, l, e, R, s, m, args, below, meth, c, D, cy, sk, A, n0, ad0, Q⟩ := x
  intro X hf hlc ad H locs ls cells slots hR hl ol os h1 h2
  exact lv_icmp_ge X.1 X.2.1 hd ht (fun q => kt q X hf hlc ad H locs ls cells slots hR hl ol os.2.2 h1 h2) (fun q => kf q X hf hlc ad H locs ls cells slots hR hl ol os.2.2 h1 h2)

theorem V_if_ge {a : Int32} {off : Int} {tgt : Nat} (hd : decode M.1 pc = .ok (.ifCond .ge off, 3)) (ht : (pc : Int) + off = (tgt : Int)) (kt : 0 ≤ a → V M x d tgt lv st h bc bs) (kf : ¬ (0 ≤ a) → V M x d (pc + 3) lv st h bc bs)  : V M x d pc lv (.int a :: st) h bc bs := by
  obtain ⟨p, l, e, R, s, m, args, below, meth, c, D, cy, sk, A, n0, ad0, Q⟩ := x
  intro X hf hlc ad H locs ls cells slots hR hl ol os h1 h2
  exact lv_if_ge X.1 X.2.1 hd ht (fun q => kt q X hf hlc ad H locs ls cells slots hR hl ol os.2 h1 h2) (fun q => kf q X hf hlc ad H locs ls cells slots hR hl ol os.2 h1 h2)

theorem V_icmp_gt {a b : Int32} {off : Int} {tgt : Nat} (hd : decode M.1 pc = .ok (.if_icmp .gt off, 3)) (ht : (pc : Int) + off = (tgt : Int)) (kt : b < a → V M x d tgt lv st h bc bs) (kf : ¬ (b < a) → V M x d (pc + 3) lv st h bc bs)  : V M x d pc lv (.int b :: .int a :: st) h bc bs := by
  obtain ⟨p, l, e, R, s, m, args, below, meth, c, D, cy, sk, A, n0, ad0, Q⟩ := x
  intro X hf hlc ad H locs ls cells slots hR hl ol os h1 h2
  exact lv_icmp_gt X.1 X.2.1 hd ht (fun q => kt q X hf hlc ad H locs ls cells slots hR hl ol os.2.2 h1 h2) (fun q => kf q X hf hlc ad H locs ls cells slots hR hl ol os.2.2 h1 h2)

theorem V_if_gt {a : Int32} {off : Int} {tgt : Nat} (hd : decode M.1 pc = .ok (.ifCond .gt off, 3)) (ht : (pc : Int) + off = (tgt : Int)) (kt : 0 < a → V M x d tgt lv st h bc bs) (kf : ¬ (0 < a) → V M x d (pc + 3) lv st h bc bs)  : V M x d pc lv (.int a :: st) h bc bs := by
  obtain ⟨p, l, e, R, s, m, args, below, meth, c, D, cy, sk, A, n0, ad0, Q⟩ := x
  intro X hf hlc ad H locs ls cells slots hR hl ol os h1 h2
  exact lv_if_gt X.1 X.2.1 hd ht (fun q => kt q X hf hlc ad H locs ls cells slots hR hl ol os.2 h1 h2) (fun q => kf q X hf hlc ad H locs ls cells slots hR hl ol os.2 h1 h2)

theorem V_icmp_le {a b : Int32} {off : Int} {tgt : Nat} (hd : decode M.1 pc = .ok (.if_icmp .le off, 3)) (ht : (pc : Int) + off = (tgt : Int)) (kt : a ≤ b → V M x d tgt lv st h bc bs) (kf : ¬ (a ≤ b) → V M x d (pc + 3) lv st h bc bs)  : V M x d pc lv (.int b :: .int a :: st) h bc bs := by
  obtain ⟨p, l, e, R, s, m, args, below, meth, c, D, cy, sk, A, n0, ad0, Q⟩ := x
  intro X hf hlc ad H locs ls cells slots hR hl ol os h1 h2
  exact lv_icmp_le X.1 X.2.1 hd ht (fun q => kt q X hf hlc ad H locs ls cells slots hR hl ol os.2.2 h1 h2) (fun q => kf q X hf hlc ad H locs ls cells slots hR hl ol os.2.2 h1 h2)

theorem V_if_le {a : Int32} {off : Int} {tgt : Nat} (hd : decode M.1 pc = .ok (.ifCond .le off, 3)) (ht : (pc : Int) + off = (tgt : Int)) (kt : a ≤ 0 → V M x d tgt lv st h bc bs) (kf : ¬ (a ≤ 0) → V M x d (pc + 3) lv st h bc bs)  : V M x d pc lv (.int a :: st) h bc bs := by
  obtain ⟨p, l, e, R, s, m, args, below, meth, c, D, cy, sk, A, n0, ad0, Q⟩ := x
  intro X hf hlc ad H locs ls cells slots hR hl ol os h1 h2
  exact lv_if_le X.1 X.2.1 hd ht (fun q => kt q X hf hlc ad H locs ls cells slots hR hl ol os.2 h1 h2) (fun q => kf q X hf hlc ad H locs ls cells slots hR hl ol os.2 h1 h2)

theorem V_goto {off : Int} {tgt : Nat} (hd : decode M.1 pc = .ok (.goto off, 3)) (ht : (pc : Int) + off = (tgt : Int)) (k : V M x d tgt lv st h bc bs)  : V M x d pc lv st h bc bs := by
  obtain ⟨p, l, e, R, s, m, args, below, meth, c, D, cy, sk, A, n0, ad0, Q⟩ := x
  intro X hf hlc ad H locs ls cells slots hR hl ol os h1 h2
  exact lv_goto X.1 X.2.1 hd ht (k X hf hlc ad H locs ls cells slots hR hl ol os h1 h2)

theorem V_ifnonnull {a : Nat} {off : Int} {tgt : Nat} (hd : decode M.1 pc = .ok (.ifnonnull off, 3)) (ht : (pc : Int) + off = (tgt : Int)) (k : V M x d tgt lv st h bc bs)  : V M x d pc lv (.ref a :: st) h bc bs := by
  obtain ⟨p, l, e, R, s, m, args, below, meth, c, D, cy, sk, A, n0, ad0, Q⟩ := x
  intro X hf hlc ad H locs ls cells slots hR hl ol os h1 h2
  exact lv_ifnonnull X.1 X.2.1 hd ht (k X hf hlc ad H locs ls cells slots hR hl ol os.2 h1 h2)

theorem V_ifnonnullN {off : Int} (hd : decode M.1 pc = .ok (.ifnonnull off, 3)) (k : V M x d (pc + 3) lv st h bc bs)  : V M x d pc lv (.null :: st) h bc bs := by
  obtain ⟨p, l, e, R, s, m, args, below, meth, c, D, cy, sk, A, n0, ad0, Q⟩ := x
  intro X hf hlc ad H locs ls cells slots hR hl ol os h1 h2
  exact lv_ifnonnullN X.1 X.2.1 hd (k X hf hlc ad H locs ls cells slots hR hl ol os.2 h1 h2)

theorem V_null (hd : decode M.1 pc = .ok (.aconst_null, 1)) (k : V M x d (pc + 1) lv (.null :: st) h bc bs)  : V M x d pc lv st h bc bs := by
  obtain ⟨p, l, e, R, s, m, args, below, meth, c, D, cy, sk, A, n0, ad0, Q⟩ := x
  intro X hf hlc ad H locs ls cells slots hR hl ol os h1 h2
  exact lv_null X.1 X.2.1 hd (k X hf hlc ad H locs ls cells slots hR hl ol ⟨trivial, os⟩ h1 h2)

theorem V_tableIn {dflt lo hi : Int} {offs : Array Int} {len : Nat} {a : Int32} {off : Int} {tgt : Nat} (hd : decode M.1 pc = .ok (.tableswitch dflt lo hi offs, len)) (g1 : ¬ a.toInt < lo) (g2 : ¬ hi < a.toInt) (ho : offs[(a.toInt - lo).toNat]? = some off) (ht : (pc : Int) + off = (tgt : Int)) (k : V M x d tgt lv st h bc bs)  : V M x d pc lv (.int a :: st) h bc bs := by
  obtain ⟨p, l, e, R, s, m, args, below, meth, c, D, cy, sk, A, n0, ad0, Q⟩ := x
  intro X hf hlc ad H locs ls cells slots hR hl ol os h1 h2
  exact lv_tableIn X.1 X.2.1 hd g1 g2 ho ht (k X hf hlc ad H locs ls cells slots hR hl ol os.2 h1 h2)

theorem V_tableOut {dflt lo hi : Int} {offs : Array Int} {len : Nat} {a : Int32} {tgt : Nat} (hd : decode M.1 pc = .ok (.tableswitch dflt lo hi offs, len)) (g : a.toInt < lo ∨ hi < a.toInt) (ht : (pc : Int) + dflt = (tgt : Int)) (k : V M x d tgt lv st h bc bs)  : V M x d pc lv (.int a :: st) h bc bs := by
  obtain ⟨p, l, e, R, s, m, args, below, meth, c, D, cy, sk, A, n0, ad0, Q⟩ := x
  intro X hf hlc ad H locs ls cells slots hR hl ol os h1 h2
  exact lv_tableOut X.1 X.2.1 hd g ht (k X hf hlc ad H locs ls cells slots hR hl ol os.2 h1 h2)

end VROWS

/-! ===== the curve, the cells: what they read ===== -/
abbrev cvL (G : zG) (cv ca cb : Nat) (cc : Int) (L V : Int → Int) : va_W := [(cv, .inr (2, [.ref ca, .ref cb, .int (zI cc)])), ia G ca 12 L, ia G cb 12 V]
def cvOK (cc : Int) (L V : Int → Int) : Prop := (2 ≤ cc ∧ cc ≤ 12) ∧ L 0 = 0 ∧ L (cc - 1) = 255 ∧ (∀ i j, 0 ≤ i → i < j → j < cc → L i < L j) ∧ (∀ j, 0 ≤ L j ∧ L j ≤ 255) ∧ (∀ j, 0 ≤ V j ∧ V j ≤ 255)
/-- the first place from v on, or the last -/
def ffR (cc : Int) (L : Int → Int) (v : Int) : Nat → Int → Int
  | 0, a => a
  | n + 1, a => if a < cc - 1 ∧ L a < v then ffR cc L v n (a + 1) else a
def ffV (cc : Int) (L : Int → Int) (v : Int) : Int := ffR cc L v 12 0
theorem ffR_b (cc : Int) (L : Int → Int) (v : Int) : ∀ (n : Nat) (a : Int), a ≤ cc - 1 → a ≤ ffR cc L v n a ∧ ffR cc L v n a ≤ cc - 1 := by
  intro n
  induction n with
  | zero => intro a h; exact ⟨Int.le_refl _, h⟩
  | succ n ih =>
    intro a h
    show a ≤ (if a < cc - 1 ∧ L a < v then ffR cc L v n (a + 1) else a) ∧ (if a < cc - 1 ∧ L a < v then ffR cc L v n (a + 1) else a) ≤ cc - 1
    split
    · have := ih (a + 1) (by omega); omega
    · omega
theorem ffV_b {cc : Int} (hcc : 2 ≤ cc ∧ cc ≤ 12) (L : Int → Int) (v : Int) : 0 ≤ ffV cc L v ∧ ffV cc L v ≤ cc - 1 := ffR_b cc L v 12 0 (by omega)
theorem ffR_s (cc : Int) (L : Int → Int) (v : Int) {a : Int} (ha : 0 ≤ a ∧ a ≤ 11) : ffR cc L v (12 - a).toNat a = if a < cc - 1 ∧ L a < v then ffR cc L v (12 - (a + 1)).toNat (a + 1) else a := by
  have h1 : (12 - a).toNat = (12 - (a + 1)).toNat + 1 := by omega
  rw [h1]; rfl
def bentV (cc : Int) (L V : Int → Int) (v : Int) : Int :=
  if L (max 1 (ffV cc L v)) - L (max 1 (ffV cc L v) - 1) ≤ 0 then V (max 1 (ffV cc L v)) else V (max 1 (ffV cc L v) - 1) + ((V (max 1 (ffV cc L v)) - V (max 1 (ffV cc L v) - 1)) * (v - L (max 1 (ffV cc L v) - 1))).tdiv (L (max 1 (ffV cc L v)) - L (max 1 (ffV cc L v) - 1))
theorem mul_bs {a b A B : Int} (ha : -A ≤ a ∧ a ≤ A) (hb : -B ≤ b ∧ b ≤ B) : -(A * B) ≤ a * b ∧ a * b ≤ A * B := by
  have h1 := Int.mul_nonneg (a := A - a) (b := B - b) (by omega) (by omega)
  have h2 := Int.mul_nonneg (a := A + a) (b := B + b) (by omega) (by omega)
  have h3 := Int.mul_nonneg (a := A - a) (b := B + b) (by omega) (by omega)
  have h4 := Int.mul_nonneg (a := A + a) (b := B - b) (by omega) (by omega)
  simp only [Int.sub_mul, Int.mul_sub, Int.add_mul, Int.mul_add] at h1 h2 h3 h4
  omega
abbrev clL (G : zG) (ce ra : Nat) (n : Nat) (dp br sl : Int) (K : Int → Int) : va_W := [(ce, .inr (1, [.int (zI dp), .int (zI br), .int (zI sl), .ref ra])), ia G ra n K]
def clOK (n : Nat) (dp br sl : Int) (K : Int → Int) : Prop := (1 ≤ dp ∧ dp ≤ 12) ∧ (1 ≤ br ∧ br ≤ 288) ∧ (0 ≤ sl ∧ sl < br) ∧ (n : Int) = dp * br ∧ (n : Int) ≤ 288 ∧ (∀ j, 0 ≤ K j ∧ K j ≤ 1000)
def nmV (dp br sl x y : Int) : Int := (x - y / dp * sl) % br + (y - y / dp * dp) * br
theorem nm_b {dp br sl x y : Int} (hd : 1 ≤ dp ∧ dp ≤ 12) (hb : 1 ≤ br ∧ br ≤ 288) : 0 ≤ nmV dp br sl x y ∧ nmV dp br sl x y < dp * br := by
  have h1 := Int.emod_nonneg (x - y / dp * sl) (show br ≠ 0 by omega)
  have h2 := Int.emod_lt_of_pos (x - y / dp * sl) (show 0 < br by omega)
  have h3 : y - y / dp * dp = y % dp := by have := Int.mul_ediv_add_emod y dp; rw [Int.mul_comm] at this; omega
  have h4 := Int.emod_nonneg y (show dp ≠ 0 by omega)
  have h5 := Int.emod_lt_of_pos y (show 0 < dp by omega)
  have h6 := mul_b (a := y % dp) (b := br) (A := dp - 1) (B := br) (by omega) (by omega)
  rw [Int.sub_mul, Int.one_mul] at h6
  unfold nmV; rw [h3]; omega
theorem dv_b {y d : Int} (hd : 1 ≤ d) (hy : -1000000 ≤ y ∧ y ≤ 1000000) : -1000000 ≤ y / d ∧ y / d ≤ 1000000 := by
  have h1 := Int.mul_ediv_add_emod y d
  have h2 := Int.emod_nonneg y (show d ≠ 0 by omega)
  have h3 := Int.emod_lt_of_pos y (show 0 < d by omega)
  constructor
  · apply Int.not_lt.mp; intro q
    have h4 := Int.mul_le_mul_of_nonneg_left (a := y / d) (b := -1000001) (c := d) (by omega) (by omega)
    omega
  · apply Int.not_lt.mp; intro q
    have h4 := Int.mul_le_mul_of_nonneg_left (a := 1000001) (b := y / d) (c := d) (by omega) (by omega)
    omega
/-- the greatest of 12 .. 2 that divides both, else 1 -/
def cdR (a b : Int) : Nat → Int
  | 0 => 1
  | n + 1 => if a.tmod ((n : Int) + 2) = 0 ∧ b.tmod ((n : Int) + 2) = 0 then (n : Int) + 2 else cdR a b n
theorem cdR_s (a b : Int) {d : Int} (hd : 2 ≤ d) : cdR a b (d - 1).toNat = if a.tmod d = 0 ∧ b.tmod d = 0 then d else cdR a b (d - 2).toNat := by
  have h1 : (d - 1).toNat = (d - 2).toNat + 1 := by omega
  have h2 : (((d - 2).toNat : Nat) : Int) + 2 = d := by omega
  rw [h1]; show (if a.tmod ((((d - 2).toNat : Nat) : Int) + 2) = 0 ∧ b.tmod ((((d - 2).toNat : Nat) : Int) + 2) = 0 then (((d - 2).toNat : Nat) : Int) + 2 else cdR a b (d - 2).toNat) = _
  rw [h2]
/-- sideways: the first (i, j) whose step leads d rows down -/
def fjR (a b d i : Int) : Nat → Option Int
  | 0 => none
  | n + 1 => if b * i + a * (12 - (n : Int)) = d then some (a * i - b * (12 - (n : Int))) else fjR a b d i n
def fiR (a b d : Int) : Nat → Int
  | 0 => 0
  | n + 1 => match fjR a b d (12 - (n : Int)) 25 with
    | some v => v
    | none => fiR a b d n
theorem fjR_s (a b d i : Int) {j : Int} (hj : j ≤ 12) : fjR a b d i (13 - j).toNat = if b * i + a * j = d then some (a * i - b * j) else fjR a b d i (12 - j).toNat := by
  have h1 : (13 - j).toNat = (12 - j).toNat + 1 := by omega
  have h2 : 12 - (((12 - j).toNat : Nat) : Int) = j := by omega
  rw [h1]; show (if b * i + a * (12 - (((12 - j).toNat : Nat) : Int)) = d then some (a * i - b * (12 - (((12 - j).toNat : Nat) : Int))) else fjR a b d i (12 - j).toNat) = _
  rw [h2]
def oor (o : Option Int) (v : Int) : Int := match o with
  | some x => x
  | none => v
theorem fiR_s (a b d : Int) {i : Int} (hi : i ≤ 12) : fiR a b d (13 - i).toNat = oor (fjR a b d i 25) (fiR a b d (12 - i).toNat) := by
  have h1 : (13 - i).toNat = (12 - i).toNat + 1 := by omega
  have h2 : 12 - (((12 - i).toNat : Nat) : Int) = i := by omega
  rw [h1]; show (match fjR a b d (12 - (((12 - i).toNat : Nat) : Int)) 25 with | some v => v | none => fiR a b d (12 - i).toNat) = _
  rw [h2]; rfl

set_option maxHeartbeats 4000000 in
set_option maxRecDepth 100000 in
theorem c_X1_firstFrom (l : Launch) (G : zG) (cv ca cb : Nat) (cc : Int) (L V : Int → Int) (v : Int) (hvv : cvOK cc L V) (h255 : -2147483648 ≤ v ∧ v ≤ 2147483647) : zRd l yX1_firstFrom cX1_firstFrom 3 (some .int) { frames := 0, cells := 0, slots := 0, locals := 0 } G [.ref cv, .int (zI (v))] (cvL G cv ca cb cc L V) (ffV cc L v) := by
  refine Met.ofW (cc := cX1_firstFrom) (maxL := 3) (ret := (some .int)) (by decide) rfl ?_
  intro p e s m args below meth c s₁ B hml hv
  obtain ⟨rfl, hP, hK⟩ := hv
  have hx := B.exec
  have hb := B.bytes
  have hr := B.returns
  have hT : ∀ w ∈ TB, w.before _ s = true := fun w h => atoms_spec (ws := Cond.code yX1_firstFrom cX1_firstFrom 3 (some .int) :: TB) B.pre w (List.mem_cons_of_mem _ h)
  have hown : s.vm.findClass RX1 = some m.cls := findClass_of_methodNamed B.named
  have hlocks := B.notSynchronized
  have hl := lv_entry ([.ref cv, .int (zI (v))]) (n := 3) (Nat.le_of_ble_eq_true rfl)
  rw [lg_entry_eq]
  generalize (lg_sl ([.ref cv, .int (zI (v))]) ++ List.replicate (3 - (lg_sl ([.ref cv, .int (zI (v))])).length) Slot.unset).toArray = ls at hl ⊢
  have hl : lv_has ls 3 [(0, .ref cv), (1, .int (zI (v)))] := hl
  obtain ⟨hcc, hL0, hLe, hLs, hLb, hVb⟩ := id hvv
  refine z_iconst hx hb dX1_firstFrom_0 ?_
  refine lv_istore_n (lv' := [(2, .int (zI (0))), (0, .ref cv), (1, .int (zI (v)))]) hx hb dX1_firstFrom_1 rfl hl (by decide) rfl (fun ls hl => ?_)
  refine z_loop (σ := Int × Array Slot) (fun zq => F0 m 2 (zq.2) []) (fun zq => ((0 ≤ zq.1 ∧ zq.1 ≤ cc - 1) ∧ ffV cc L v = ffR cc L v (12 - zq.1).toNat zq.1) ∧ lv_has (zq.2) 3 [(0, .ref cv), (1, .int (zI (v))), (2, .int (zI (zq.1)))]) (fun zq => (cc - zq.1).toNat) ?_ (0, ls) ⟨⟨by omega, rfl⟩, lv_sub hl [1, 2, 0] rfl⟩
  intro zq hq ih
  obtain ⟨a, ls⟩ := zq
  obtain ⟨⟨hI, hI2⟩, hl⟩ := hq
  try dsimp only at hI hI2 hl ih ⊢
  have ih2 := ih
  refine lv_iload_n hx hb dX1_firstFrom_2 rfl (lv_at hl 2 rfl) ?_
  refine lv_aload_n hx hb dX1_firstFrom_3 rfl (lv_at hl 0 rfl) ?_
  refine gf_X1_18 hx hb hT hown hK hP 0 rfl rfl dX1_firstFrom_4 ?_
  refine z_iconst hx hb dX1_firstFrom_7 ?_
  refine z_isub hx hb dX1_firstFrom_8 ?_
  refine z_icmp_ge (tgt := 28) hx hb dX1_firstFrom_9 (by decide) (by omega) (by omega) (fun h9 => ?_) (fun h9 => ?_)
  · skip
    refine lv_iload_n hx hb dX1_firstFrom_28 rfl (lv_at hl 2 rfl) ?_
    exact z_iret hx hb hr hlocks (by rw [hI2, ffR_s cc L v (by omega), if_neg (by omega)]) dX1_firstFrom_29
  · skip
    have hla := hLb a
    refine lv_aload_n hx hb dX1_firstFrom_12 rfl (lv_at hl 0 rfl) ?_
    refine gf_X1_11 hx hb hT hown hK hP 0 rfl rfl dX1_firstFrom_13 ?_
    refine lv_iload_n hx hb dX1_firstFrom_16 rfl (lv_at hl 2 rfl) ?_
    refine z_iald hx hb hK hP 1 rfl (⟨by omega, by omega, by omega⟩) dX1_firstFrom_17 ?_
    refine lv_iload_n hx hb dX1_firstFrom_18 rfl (lv_at hl 1 rfl) ?_
    refine z_icmp_ge (tgt := 28) hx hb dX1_firstFrom_19 (by decide) (by omega) (by omega) (fun h19 => ?_) (fun h19 => ?_)
    · skip
      refine lv_iload_n hx hb dX1_firstFrom_28 rfl (lv_at hl 2 rfl) ?_
      exact z_iret hx hb hr hlocks (by rw [hI2, ffR_s cc L v (by omega), if_neg (by omega)]) dX1_firstFrom_29
    · skip
      refine lv_iinc (v := zI (a + (1))) (lv' := [(2, .int (zI (a + (1)))), (0, .ref cv), (1, .int (zI (v)))]) hx hb dX1_firstFrom_22 hl (k := 2) rfl (zI_add _ _) (by decide) rfl (fun ls hl => ?_)
      refine z_goto (tgt := 2) hx hb dX1_firstFrom_25 (by decide) ?_
      exact ih2 (a + 1, ls) ⟨⟨by dsimp only; omega, by rw [hI2, ffR_s cc L v (by omega), if_pos ⟨by omega, by omega⟩]⟩, lv_sub hl [1, 2, 0] rfl⟩ (by omega)

set_option maxHeartbeats 4000000 in
set_option maxRecDepth 100000 in
theorem c_X1_hasRoomFor (l : Launch) (G : zG) (cv ca cb : Nat) (cc : Int) (L V : Int → Int) (v : Int) (hvv : cvOK cc L V) (h255 : 0 ≤ v ∧ v ≤ 255) : zRd l yX1_hasRoomFor cX1_hasRoomFor 2 (some .boolean) { frames := 1, cells := 0, slots := 0, locals := 22 } G [.ref cv, .int (zI (v))] (cvL G cv ca cb cc L V) (bI (decide (cc < 12) || decide (L (ffV cc L v) = v))) := by
  refine Met.ofW (cc := cX1_hasRoomFor) (maxL := 2) (ret := (some .boolean)) (by decide) rfl ?_
  intro p e s m args below meth c s₁ B hml hv
  obtain ⟨rfl, hP, hK⟩ := hv
  have hx := B.exec
  have hb := B.bytes
  have hr := B.returns
  have hT : ∀ w ∈ TB, w.before _ s = true := fun w h => atoms_spec (ws := Cond.code yX1_hasRoomFor cX1_hasRoomFor 2 (some .boolean) :: TB) B.pre w (List.mem_cons_of_mem _ h)
  have hown : s.vm.findClass RX1 = some m.cls := findClass_of_methodNamed B.named
  have hlocks := B.notSynchronized
  have hl := lv_entry ([.ref cv, .int (zI (v))]) (n := 2) (Nat.le_of_ble_eq_true rfl)
  rw [lg_entry_eq]
  generalize (lg_sl ([.ref cv, .int (zI (v))]) ++ List.replicate (2 - (lg_sl ([.ref cv, .int (zI (v))])).length) Slot.unset).toArray = ls at hl ⊢
  have hl : lv_has ls 2 [(0, .ref cv), (1, .int (zI (v)))] := hl
  obtain ⟨hcc, hL0, hLe, hLs, hLb, hVb⟩ := id hvv
  refine lv_aload_n hx hb dX1_hasRoomFor_0 rfl (lv_at hl 0 rfl) ?_
  refine gf_X1_18 hx hb hT hown hK hP 0 rfl rfl dX1_hasRoomFor_1 ?_
  refine z_bipush hx hb dX1_hasRoomFor_4 (by decide +kernel) ?_
  refine z_icmp_lt (tgt := 23) hx hb dX1_hasRoomFor_6 (by decide) (by omega) (by omega) (fun h6 => ?_) (fun h6 => ?_)
  · skip
    refine z_iconst hx hb dX1_hasRoomFor_23 ?_
    refine z_goto (tgt := 28) hx hb dX1_hasRoomFor_24 (by decide) ?_
    exact z_zret hx hb hr hlocks (by first | exact Or.inl rfl | exact Or.inr rfl) (by refine bI_cases (fun h9 => ?_) (fun h9 => ?_) <;> first | rfl | (exfalso; simp only [Bool.or_eq_true, Bool.or_eq_false_iff, decide_eq_true_eq, decide_eq_false_iff_not] at h9; omega)) dX1_hasRoomFor_28
  · skip
    have hf := ffV_b hcc L v
    have hlf := hLb (ffV cc L v)
    refine lv_aload_n hx hb dX1_hasRoomFor_9 rfl (lv_at hl 0 rfl) ?_
    refine gf_X1_11 hx hb hT hown hK hP 0 rfl rfl dX1_hasRoomFor_10 ?_
    refine lv_aload_n hx hb dX1_hasRoomFor_13 rfl (lv_at hl 0 rfl) ?_
    refine lv_iload_n hx hb dX1_hasRoomFor_14 rfl (lv_at hl 1 rfl) ?_
    refine z_callV (q0 := 0) (G := G) (As := [.int (zI (v))]) (rest := [.ref ca]) hx hb hml hown hT hK (c_X1_firstFrom l G cv ca cb cc L V (v) hvv (by omega)) kc_X1_22 ⟨Nat.le_of_ble_eq_true rfl, Nat.le_of_ble_eq_true rfl⟩ ⟨rfl, rfl⟩ ⟨Nat.zero_le _, Nat.zero_le _⟩ hP rfl rfl rfl rfl hl.1 rfl (Nat.le_of_ble_eq_true rfl) dX1_hasRoomFor_15 ?_
    refine z_iald hx hb hK hP 1 rfl (⟨by omega, by omega, by omega⟩) dX1_hasRoomFor_18 ?_
    refine lv_iload_n hx hb dX1_hasRoomFor_19 rfl (lv_at hl 1 rfl) ?_
    refine z_icmp_ne (tgt := 27) hx hb dX1_hasRoomFor_20 (by decide) (by omega) (by omega) (fun h20 => ?_) (fun h20 => ?_)
    · skip
      refine z_iconst hx hb dX1_hasRoomFor_27 ?_
      exact z_zret hx hb hr hlocks (by first | exact Or.inl rfl | exact Or.inr rfl) (by refine bI_cases (fun h9 => ?_) (fun h9 => ?_) <;> first | rfl | (exfalso; simp only [Bool.or_eq_true, Bool.or_eq_false_iff, decide_eq_true_eq, decide_eq_false_iff_not] at h9; omega)) dX1_hasRoomFor_28
    · skip
      refine z_iconst hx hb dX1_hasRoomFor_23 ?_
      refine z_goto (tgt := 28) hx hb dX1_hasRoomFor_24 (by decide) ?_
      exact z_zret hx hb hr hlocks (by first | exact Or.inl rfl | exact Or.inr rfl) (by refine bI_cases (fun h9 => ?_) (fun h9 => ?_) <;> first | rfl | (exfalso; simp only [Bool.or_eq_true, Bool.or_eq_false_iff, decide_eq_true_eq, decide_eq_false_iff_not] at h9; omega)) dX1_hasRoomFor_28

set_option maxHeartbeats 4000000 in
set_option maxRecDepth 100000 in
theorem c_X1_bent (l : Launch) (G : zG) (cv ca cb : Nat) (cc : Int) (L V : Int → Int) (v : Int) (hvv : cvOK cc L V) (h255 : 0 ≤ v ∧ v ≤ 255) : zRd l yX1_bent cX1_bent 5 (some .int) { frames := 1, cells := 0, slots := 0, locals := 22 } G [.ref cv, .int (zI (v))] (cvL G cv ca cb cc L V) (bentV cc L V v) := by
  refine Met.ofW (cc := cX1_bent) (maxL := 5) (ret := (some .int)) (by decide) rfl ?_
  intro p e s m args below meth c s₁ B hml hv
  obtain ⟨rfl, hP, hK⟩ := hv
  have hx := B.exec
  have hb := B.bytes
  have hr := B.returns
  have hT : ∀ w ∈ TB, w.before _ s = true := fun w h => atoms_spec (ws := Cond.code yX1_bent cX1_bent 5 (some .int) :: TB) B.pre w (List.mem_cons_of_mem _ h)
  have hown : s.vm.findClass RX1 = some m.cls := findClass_of_methodNamed B.named
  have hlocks := B.notSynchronized
  have hl := lv_entry ([.ref cv, .int (zI (v))]) (n := 5) (Nat.le_of_ble_eq_true rfl)
  rw [lg_entry_eq]
  generalize (lg_sl ([.ref cv, .int (zI (v))]) ++ List.replicate (5 - (lg_sl ([.ref cv, .int (zI (v))])).length) Slot.unset).toArray = ls at hl ⊢
  have hl : lv_has ls 5 [(0, .ref cv), (1, .int (zI (v)))] := hl
  obtain ⟨hcc, hL0, hLe, hLs, hLb, hVb⟩ := id hvv
  have hf := ffV_b hcc L v
  refine z_iconst hx hb dX1_bent_0 ?_
  refine lv_aload_n hx hb dX1_bent_1 rfl (lv_at hl 0 rfl) ?_
  refine lv_iload_n hx hb dX1_bent_2 rfl (lv_at hl 1 rfl) ?_
  refine z_callV (q0 := 0) (G := G) (As := [.int (zI (v))]) (rest := [.int (zI (1))]) hx hb hml hown hT hK (c_X1_firstFrom l G cv ca cb cc L V (v) hvv (by omega)) kc_X1_22 ⟨Nat.le_of_ble_eq_true rfl, Nat.le_of_ble_eq_true rfl⟩ ⟨rfl, rfl⟩ ⟨Nat.zero_le _, Nat.zero_le _⟩ hP rfl rfl rfl rfl hl.1 rfl (Nat.le_of_ble_eq_true rfl) dX1_bent_3 ?_
  refine z_mmax hx hb hml hl.1 hown hT kc_X1_26 ⟨Nat.le_of_ble_eq_true rfl, Nat.le_of_ble_eq_true rfl⟩ ⟨Nat.zero_le _, Nat.zero_le _⟩ (by omega) (by omega) dX1_bent_6 ?_
  obtain ⟨at1, eat1⟩ : ∃ z : Int, z = (max 1 (ffV cc L v)) := ⟨_, rfl⟩
  refine z_top at1 eat1.symm ?_
  have ha1 : 1 ≤ at1 ∧ at1 ≤ cc - 1 := by omega
  have k1 := hLb at1
  have k2 := hLb (at1 - 1)
  have k3 := hVb at1
  have k4 := hVb (at1 - 1)
  have k5 := mul_bs (a := V at1 - V (at1 - 1)) (b := v - L (at1 - 1)) (A := 255) (B := 255) (by omega) (by omega)
  refine lv_istore_n (lv' := [(2, .int (zI (at1))), (0, .ref cv), (1, .int (zI (v)))]) hx hb dX1_bent_9 rfl hl (by decide) rfl (fun ls hl => ?_)
  refine lv_aload_n hx hb dX1_bent_10 rfl (lv_at hl 1 rfl) ?_
  refine gf_X1_11 hx hb hT hown hK hP 0 rfl rfl dX1_bent_11 ?_
  refine lv_iload_n hx hb dX1_bent_14 rfl (lv_at hl 0 rfl) ?_
  refine z_iald hx hb hK hP 1 rfl (⟨by omega, by omega, by omega⟩) dX1_bent_15 ?_
  refine lv_aload_n hx hb dX1_bent_16 rfl (lv_at hl 1 rfl) ?_
  refine gf_X1_11 hx hb hT hown hK hP 0 rfl rfl dX1_bent_17 ?_
  refine lv_iload_n hx hb dX1_bent_20 rfl (lv_at hl 0 rfl) ?_
  refine z_iconst hx hb dX1_bent_21 ?_
  refine z_isub hx hb dX1_bent_22 ?_
  refine z_iald hx hb hK hP 1 rfl (⟨by omega, by omega, by omega⟩) dX1_bent_23 ?_
  refine z_isub hx hb dX1_bent_24 ?_
  refine lv_istore_n (lv' := [(3, .int (zI (((L at1) - (L (at1 - 1)))))), (2, .int (zI (at1))), (0, .ref cv), (1, .int (zI (v)))]) hx hb dX1_bent_25 rfl hl (by decide) rfl (fun ls hl => ?_)
  refine lv_aload_n hx hb dX1_bent_26 rfl (lv_at hl 2 rfl) ?_
  refine gf_X1_15 hx hb hT hown hK hP 0 rfl rfl dX1_bent_27 ?_
  refine lv_iload_n hx hb dX1_bent_30 rfl (lv_at hl 1 rfl) ?_
  refine z_iald hx hb hK hP 2 rfl (⟨by omega, by omega, by omega⟩) dX1_bent_31 ?_
  refine lv_aload_n hx hb dX1_bent_32 rfl (lv_at hl 2 rfl) ?_
  refine gf_X1_15 hx hb hT hown hK hP 0 rfl rfl dX1_bent_33 ?_
  refine lv_iload_n hx hb dX1_bent_36 rfl (lv_at hl 1 rfl) ?_
  refine z_iconst hx hb dX1_bent_37 ?_
  refine z_isub hx hb dX1_bent_38 ?_
  refine z_iald hx hb hK hP 2 rfl (⟨by omega, by omega, by omega⟩) dX1_bent_39 ?_
  refine z_isub hx hb dX1_bent_40 ?_
  refine lv_istore (lv' := [(4, .int (zI (((V at1) - (V (at1 - 1)))))), (3, .int (zI (((L at1) - (L (at1 - 1)))))), (2, .int (zI (at1))), (0, .ref cv), (1, .int (zI (v)))]) hx hb dX1_bent_41 hl (by decide) rfl (fun ls hl => ?_)
  refine lv_iload_n hx hb dX1_bent_43 rfl (lv_at hl 1 rfl) ?_
  refine z_if_gt (tgt := 56) hx hb dX1_bent_44 (by decide) (by omega) (fun h44 => ?_) (fun h44 => ?_)
  · skip
    refine lv_aload_n hx hb dX1_bent_56 rfl (lv_at hl 3 rfl) ?_
    refine gf_X1_15 hx hb hT hown hK hP 0 rfl rfl dX1_bent_57 ?_
    refine lv_iload_n hx hb dX1_bent_60 rfl (lv_at hl 2 rfl) ?_
    refine z_iconst hx hb dX1_bent_61 ?_
    refine z_isub hx hb dX1_bent_62 ?_
    refine z_iald hx hb hK hP 2 rfl (⟨by omega, by omega, by omega⟩) dX1_bent_63 ?_
    refine lv_iload hx hb dX1_bent_64 (lv_at hl 0 rfl) ?_
    refine lv_iload_n hx hb dX1_bent_66 rfl (lv_at hl 4 rfl) ?_
    refine lv_aload_n hx hb dX1_bent_67 rfl (lv_at hl 3 rfl) ?_
    refine gf_X1_11 hx hb hT hown hK hP 0 rfl rfl dX1_bent_68 ?_
    refine lv_iload_n hx hb dX1_bent_71 rfl (lv_at hl 2 rfl) ?_
    refine z_iconst hx hb dX1_bent_72 ?_
    refine z_isub hx hb dX1_bent_73 ?_
    refine z_iald hx hb hK hP 1 rfl (⟨by omega, by omega, by omega⟩) dX1_bent_74 ?_
    refine z_isub hx hb dX1_bent_75 ?_
    refine z_imul hx hb dX1_bent_76 ?_
    refine lv_iload_n hx hb dX1_bent_77 rfl (lv_at hl 1 rfl) ?_
    refine z_itdiv hx hb dX1_bent_78 (by omega) (by omega) (by omega) ?_
    refine z_iadd hx hb dX1_bent_79 ?_
    exact z_iret hx hb hr hlocks (by unfold bentV; rw [← eat1]; split <;> first | rfl | omega) dX1_bent_80
  · skip
    refine lv_aload_n hx hb dX1_bent_47 rfl (lv_at hl 3 rfl) ?_
    refine gf_X1_15 hx hb hT hown hK hP 0 rfl rfl dX1_bent_48 ?_
    refine lv_iload_n hx hb dX1_bent_51 rfl (lv_at hl 2 rfl) ?_
    refine z_iald hx hb hK hP 2 rfl (⟨by omega, by omega, by omega⟩) dX1_bent_52 ?_
    refine z_goto (tgt := 80) hx hb dX1_bent_53 (by decide) ?_
    exact z_iret hx hb hr hlocks (by unfold bentV; rw [← eat1]; split <;> first | rfl | omega) dX1_bent_80

set_option maxHeartbeats 4000000 in
set_option maxRecDepth 100000 in
theorem c_X0_numberOf (l : Launch) (G : zG) (ce ra : Nat) (n : Nat) (dp br sl : Int) (K : Int → Int) (x y : Int) (hdp : 1 ≤ dp ∧ dp ≤ 12) (hbr : 1 ≤ br ∧ br ≤ 288) (hsl : 0 ≤ sl ∧ sl < br) (hxx : -1000000 ≤ x ∧ x ≤ 1000000) (hyy : -1000000 ≤ y ∧ y ≤ 1000000) : zRd l yX0_numberOf cX0_numberOf 4 (some .int) { frames := 1, cells := 0, slots := 0, locals := 22 } G [.ref ce, .int (zI (x)), .int (zI (y))] (clL G ce ra n dp br sl K) (nmV dp br sl x y) := by
  refine Met.ofW (cc := cX0_numberOf) (maxL := 4) (ret := (some .int)) (by decide) rfl ?_
  intro p e s m args below meth c s₁ B hml hv
  obtain ⟨rfl, hP, hK⟩ := hv
  have hx := B.exec
  have hb := B.bytes
  have hr := B.returns
  have hT : ∀ w ∈ TB, w.before _ s = true := fun w h => atoms_spec (ws := Cond.code yX0_numberOf cX0_numberOf 4 (some .int) :: TB) B.pre w (List.mem_cons_of_mem _ h)
  have hown : s.vm.findClass RX0 = some m.cls := findClass_of_methodNamed B.named
  have hlocks := B.notSynchronized
  have hl := lv_entry ([.ref ce, .int (zI (x)), .int (zI (y))]) (n := 4) (Nat.le_of_ble_eq_true rfl)
  rw [lg_entry_eq]
  generalize (lg_sl ([.ref ce, .int (zI (x)), .int (zI (y))]) ++ List.replicate (4 - (lg_sl ([.ref ce, .int (zI (x)), .int (zI (y))])).length) Slot.unset).toArray = ls at hl ⊢
  have hl : lv_has ls 4 [(0, .ref ce), (1, .int (zI (x))), (2, .int (zI (y)))] := hl
  have hk1 := dv_b (d := dp) (by omega) hyy
  have hk2 := mul_bs (a := y / dp) (b := sl) (A := 1000000) (B := 288) (by omega) (by omega)
  refine lv_iload_n hx hb dX0_numberOf_0 rfl (lv_at hl 2 rfl) ?_
  refine lv_aload_n hx hb dX0_numberOf_1 rfl (lv_at hl 0 rfl) ?_
  refine gf_X0_15 hx hb hT hown hK hP 0 rfl rfl dX0_numberOf_2 ?_
  refine z_callS (G := G) (As := [.int (zI (y)), .int (zI (dp))]) (rest := []) hx hb hml hown hT hK (c_J9_floorDiv_7cf53 l G (y) (dp) (by omega) (by omega)) kc_X0_49 ⟨Nat.le_of_ble_eq_true rfl, Nat.le_of_ble_eq_true rfl⟩ ⟨rfl, rfl⟩ ⟨Nat.zero_le _, Nat.zero_le _⟩ (hP.sub [] rfl) rfl hl.1 rfl (Nat.le_of_ble_eq_true rfl) dX0_numberOf_5 ?_
  refine lv_istore_n (lv' := [(3, .int (zI ((y / dp)))), (0, .ref ce), (1, .int (zI (x))), (2, .int (zI (y)))]) hx hb dX0_numberOf_8 rfl hl (by decide) rfl (fun ls hl => ?_)
  refine lv_iload_n hx hb dX0_numberOf_9 rfl (lv_at hl 2 rfl) ?_
  refine lv_iload_n hx hb dX0_numberOf_10 rfl (lv_at hl 0 rfl) ?_
  refine lv_aload_n hx hb dX0_numberOf_11 rfl (lv_at hl 1 rfl) ?_
  refine gf_X0_34 hx hb hT hown hK hP 0 rfl rfl dX0_numberOf_12 ?_
  refine z_imul hx hb dX0_numberOf_15 ?_
  refine z_isub hx hb dX0_numberOf_16 ?_
  refine lv_aload_n hx hb dX0_numberOf_17 rfl (lv_at hl 1 rfl) ?_
  refine gf_X0_24 hx hb hT hown hK hP 0 rfl rfl dX0_numberOf_18 ?_
  refine z_callS (G := G) (As := [.int (zI ((x - ((y / dp) * sl)))), .int (zI (br))]) (rest := []) hx hb hml hown hT hK (c_J9_floorMod_7cf53 l G ((x - ((y / dp) * sl))) (br) (by omega) (by omega)) kc_X0_31 ⟨Nat.le_of_ble_eq_true rfl, Nat.le_of_ble_eq_true rfl⟩ ⟨rfl, rfl⟩ ⟨Nat.zero_le _, Nat.zero_le _⟩ (hP.sub [] rfl) rfl hl.1 rfl (Nat.le_of_ble_eq_true rfl) dX0_numberOf_21 ?_
  refine lv_iload_n hx hb dX0_numberOf_24 rfl (lv_at hl 3 rfl) ?_
  refine lv_iload_n hx hb dX0_numberOf_25 rfl (lv_at hl 0 rfl) ?_
  refine lv_aload_n hx hb dX0_numberOf_26 rfl (lv_at hl 1 rfl) ?_
  refine gf_X0_15 hx hb hT hown hK hP 0 rfl rfl dX0_numberOf_27 ?_
  refine z_imul hx hb dX0_numberOf_30 ?_
  refine z_isub hx hb dX0_numberOf_31 ?_
  refine lv_aload_n hx hb dX0_numberOf_32 rfl (lv_at hl 1 rfl) ?_
  refine gf_X0_24 hx hb hT hown hK hP 0 rfl rfl dX0_numberOf_33 ?_
  refine z_imul hx hb dX0_numberOf_36 ?_
  refine z_iadd hx hb dX0_numberOf_37 ?_
  exact z_iret hx hb hr hlocks (rfl) dX0_numberOf_38

set_option maxHeartbeats 4000000 in
set_option maxRecDepth 100000 in
theorem c_X0_takes (l : Launch) (G : zG) (ce ra : Nat) (n : Nat) (dp br sl : Int) (K : Int → Int) (v x y : Int) (hcl : clOK n dp br sl K) (hv1 : 0 ≤ v ∧ v ≤ 255) (hxx : -1000000 ≤ x ∧ x ≤ 1000000) (hyy : -1000000 ≤ y ∧ y ≤ 1000000) : zRd l yX0_takes cX0_takes 4 (some .boolean) { frames := 2, cells := 0, slots := 0, locals := 45 } G [.ref ce, .int (zI (v)), .int (zI (x)), .int (zI (y))] (clL G ce ra n dp br sl K) (bI (decide (K (nmV dp br sl x y) < (v * n + 127) / 255))) := by
  refine Met.ofW (cc := cX0_takes) (maxL := 4) (ret := (some .boolean)) (by decide) rfl ?_
  intro p e s m args below meth c s₁ B hml hv
  obtain ⟨rfl, hP, hK⟩ := hv
  have hx := B.exec
  have hb := B.bytes
  have hr := B.returns
  have hT : ∀ w ∈ TB, w.before _ s = true := fun w h => atoms_spec (ws := Cond.code yX0_takes cX0_takes 4 (some .boolean) :: TB) B.pre w (List.mem_cons_of_mem _ h)
  have hown : s.vm.findClass RX0 = some m.cls := findClass_of_methodNamed B.named
  have hlocks := B.notSynchronized
  have hl := lv_entry ([.ref ce, .int (zI (v)), .int (zI (x)), .int (zI (y))]) (n := 4) (Nat.le_of_ble_eq_true rfl)
  rw [lg_entry_eq]
  generalize (lg_sl ([.ref ce, .int (zI (v)), .int (zI (x)), .int (zI (y))]) ++ List.replicate (4 - (lg_sl ([.ref ce, .int (zI (v)), .int (zI (x)), .int (zI (y))])).length) Slot.unset).toArray = ls at hl ⊢
  have hl : lv_has ls 4 [(0, .ref ce), (1, .int (zI (v))), (2, .int (zI (x))), (3, .int (zI (y)))] := hl
  obtain ⟨hdp, hbr, hsl, hn, hn2, hKb⟩ := id hcl
  have hnb := nm_b (sl := sl) (x := x) (y := y) hdp hbr
  have hk9 := hKb (nmV dp br sl x y)
  have hvn := mul_b (a := v) (b := (n : Int)) (A := 255) (B := 288) (by omega) (by omega)
  refine lv_aload_n hx hb dX0_takes_0 rfl (lv_at hl 0 rfl) ?_
  refine gf_X0_37 hx hb hT hown hK hP 0 rfl rfl dX0_takes_1 ?_
  refine lv_aload_n hx hb dX0_takes_4 rfl (lv_at hl 0 rfl) ?_
  refine lv_iload_n hx hb dX0_takes_5 rfl (lv_at hl 2 rfl) ?_
  refine lv_iload_n hx hb dX0_takes_6 rfl (lv_at hl 3 rfl) ?_
  refine z_callV (q0 := 0) (G := G) (As := [.int (zI (x)), .int (zI (y))]) (rest := [.ref ra]) hx hb hml hown hT hK (c_X0_numberOf l G ce ra n dp br sl K (x) (y) hdp hbr hsl (by omega) (by omega)) kc_X0_52 ⟨Nat.le_of_ble_eq_true rfl, Nat.le_of_ble_eq_true rfl⟩ ⟨rfl, rfl⟩ ⟨Nat.zero_le _, Nat.zero_le _⟩ hP rfl rfl rfl rfl hl.1 rfl (Nat.le_of_ble_eq_true rfl) dX0_takes_7 ?_
  refine z_iald hx hb hK hP 1 rfl (⟨by omega, by omega, by omega⟩) dX0_takes_10 ?_
  refine lv_iload_n hx hb dX0_takes_11 rfl (lv_at hl 1 rfl) ?_
  refine lv_aload_n hx hb dX0_takes_12 rfl (lv_at hl 0 rfl) ?_
  refine gf_X0_37 hx hb hT hown hK hP 0 rfl rfl dX0_takes_13 ?_
  refine z_alen hx hb hK hP 1 rfl dX0_takes_16 ?_
  refine z_imul hx hb dX0_takes_17 ?_
  refine z_bipush hx hb dX0_takes_18 (by decide +kernel) ?_
  refine z_iadd hx hb dX0_takes_20 ?_
  refine z_sipush hx hb dX0_takes_21 (by decide +kernel) ?_
  refine z_idiv hx hb dX0_takes_24 (by omega) (by omega) ?_
  refine z_icmp_ge (tgt := 32) hx hb dX0_takes_25 (by decide) (by omega) (by omega) (fun h25 => ?_) (fun h25 => ?_)
  · skip
    refine z_iconst hx hb dX0_takes_32 ?_
    exact z_zret hx hb hr hlocks (by first | exact Or.inl rfl | exact Or.inr rfl) (by refine bI_cases (fun h9 => ?_) (fun h9 => ?_) <;> first | rfl | (exfalso; simp only [decide_eq_true_eq, decide_eq_false_iff_not] at h9; omega)) dX0_takes_33
  · skip
    refine z_iconst hx hb dX0_takes_28 ?_
    refine z_goto (tgt := 33) hx hb dX0_takes_29 (by decide) ?_
    exact z_zret hx hb hr hlocks (by first | exact Or.inl rfl | exact Or.inr rfl) (by refine bI_cases (fun h9 => ?_) (fun h9 => ?_) <;> first | rfl | (exfalso; simp only [decide_eq_true_eq, decide_eq_false_iff_not] at h9; omega)) dX0_takes_33

set_option maxHeartbeats 4000000 in
set_option maxRecDepth 100000 in
theorem c_X0_commonDivisor (l : Launch) (G : zG) (a b : Int) (ha : -100 ≤ a ∧ a ≤ 100) (hb1 : -100 ≤ b ∧ b ≤ 100) : zRd l yX0_commonDivisor cX0_commonDivisor 3 (some .int) { frames := 0, cells := 0, slots := 0, locals := 0 } G [.int (zI (a)), .int (zI (b))] ([]) (cdR a b 11) := by
  refine Met.ofW (cc := cX0_commonDivisor) (maxL := 3) (ret := (some .int)) (by decide) rfl ?_
  intro p e s m args below meth c s₁ B hml hv
  obtain ⟨rfl, hP, hK⟩ := hv
  have hx := B.exec
  have hb := B.bytes
  have hr := B.returns
  have hT : ∀ w ∈ TB, w.before _ s = true := fun w h => atoms_spec (ws := Cond.code yX0_commonDivisor cX0_commonDivisor 3 (some .int) :: TB) B.pre w (List.mem_cons_of_mem _ h)
  have hown : s.vm.findClass RX0 = some m.cls := findClass_of_methodNamed B.named
  have hlocks := B.notSynchronized
  have hl := lv_entry ([.int (zI (a)), .int (zI (b))]) (n := 3) (Nat.le_of_ble_eq_true rfl)
  rw [lg_entry_eq]
  generalize (lg_sl ([.int (zI (a)), .int (zI (b))]) ++ List.replicate (3 - (lg_sl ([.int (zI (a)), .int (zI (b))])).length) Slot.unset).toArray = ls at hl ⊢
  have hl : lv_has ls 3 [(0, .int (zI (a))), (1, .int (zI (b)))] := hl
  refine z_bipush hx hb dX0_commonDivisor_0 (by decide +kernel) ?_
  refine lv_istore_n (lv' := [(2, .int (zI (12))), (0, .int (zI (a))), (1, .int (zI (b)))]) hx hb dX0_commonDivisor_2 rfl hl (by decide) rfl (fun ls hl => ?_)
  refine z_loop (σ := Int × Array Slot) (fun zq => F0 m 3 (zq.2) []) (fun zq => ((1 ≤ zq.1 ∧ zq.1 ≤ 12) ∧ cdR a b 11 = cdR a b (zq.1 - 1).toNat) ∧ lv_has (zq.2) 3 [(0, .int (zI (a))), (1, .int (zI (b))), (2, .int (zI (zq.1)))]) (fun zq => zq.1.toNat) ?_ (12, ls) ⟨⟨by omega, rfl⟩, lv_sub hl [1, 2, 0] rfl⟩
  intro zq hq ih
  obtain ⟨d, ls⟩ := zq
  obtain ⟨⟨hI, hI2⟩, hl⟩ := hq
  try dsimp only at hI hI2 hl ih ⊢
  have ih3 := ih
  refine lv_iload_n hx hb dX0_commonDivisor_3 rfl (lv_at hl 2 rfl) ?_
  refine z_iconst hx hb dX0_commonDivisor_4 ?_
  refine z_icmp_le (tgt := 28) hx hb dX0_commonDivisor_5 (by decide) (by omega) (by omega) (fun h5 => ?_) (fun h5 => ?_)
  · skip
    refine z_iconst hx hb dX0_commonDivisor_28 ?_
    exact z_iret hx hb hr hlocks (by have h9 : d = 1 := (by omega); rw [hI2, h9]; rfl) dX0_commonDivisor_29
  · skip
    refine lv_iload_n hx hb dX0_commonDivisor_8 rfl (lv_at hl 0 rfl) ?_
    refine lv_iload_n hx hb dX0_commonDivisor_9 rfl (lv_at hl 2 rfl) ?_
    refine z_itrem hx hb dX0_commonDivisor_10 (by omega) (by omega) (by omega) ?_
    have ht1 := tmod_bounds (a := a) (M := d) (by omega)
    refine z_if_ne (tgt := 22) hx hb dX0_commonDivisor_11 (by decide) (by omega) (fun h11 => ?_) (fun h11 => ?_)
    · skip
      refine lv_iinc (v := zI (d + (-1))) (lv' := [(2, .int (zI (d + (-1)))), (0, .int (zI (a))), (1, .int (zI (b)))]) hx hb dX0_commonDivisor_22 hl (k := 2) rfl (zI_add _ _) (by decide) rfl (fun ls hl => ?_)
      refine z_goto (tgt := 3) hx hb dX0_commonDivisor_25 (by decide) ?_
      exact ih3 (d + (-1), ls) ⟨⟨by dsimp only; omega, by dsimp only; rw [hI2, cdR_s a b (by omega), if_neg (fun h9 => by first | exact h11 h9.1 | exact h17 h9.2), show d + -1 - 1 = d - 2 by omega]⟩, lv_sub hl [1, 2, 0] rfl⟩ (by omega)
    · skip
      refine lv_iload_n hx hb dX0_commonDivisor_14 rfl (lv_at hl 1 rfl) ?_
      refine lv_iload_n hx hb dX0_commonDivisor_15 rfl (lv_at hl 2 rfl) ?_
      refine z_itrem hx hb dX0_commonDivisor_16 (by omega) (by omega) (by omega) ?_
      have ht2 := tmod_bounds (a := b) (M := d) (by omega)
      refine z_if_ne (tgt := 22) hx hb dX0_commonDivisor_17 (by decide) (by omega) (fun h17 => ?_) (fun h17 => ?_)
      · skip
        refine lv_iinc (v := zI (d + (-1))) (lv' := [(2, .int (zI (d + (-1)))), (0, .int (zI (a))), (1, .int (zI (b)))]) hx hb dX0_commonDivisor_22 hl (k := 2) rfl (zI_add _ _) (by decide) rfl (fun ls hl => ?_)
        refine z_goto (tgt := 3) hx hb dX0_commonDivisor_25 (by decide) ?_
        exact ih3 (d + (-1), ls) ⟨⟨by dsimp only; omega, by dsimp only; rw [hI2, cdR_s a b (by omega), if_neg (fun h9 => by first | exact h11 h9.1 | exact h17 h9.2), show d + -1 - 1 = d - 2 by omega]⟩, lv_sub hl [1, 2, 0] rfl⟩ (by omega)
      · skip
        refine lv_iload_n hx hb dX0_commonDivisor_20 rfl (lv_at hl 2 rfl) ?_
        exact z_iret hx hb hr hlocks (by rw [hI2, cdR_s a b (by omega), if_pos ⟨h11, h17⟩]) dX0_commonDivisor_21

set_option maxHeartbeats 4000000 in
set_option maxRecDepth 100000 in
theorem c_X0_sideways (l : Launch) (G : zG) (a b dn : Int) (ha : -12 ≤ a ∧ a ≤ 12) (hb1 : -12 ≤ b ∧ b ≤ 12) (hdn : 0 ≤ dn ∧ dn ≤ 300) : zRd l yX0_sideways cX0_sideways 5 (some .int) { frames := 0, cells := 0, slots := 0, locals := 0 } G [.int (zI (a)), .int (zI (b)), .int (zI (dn))] ([]) (fiR a b dn 25) := by
  refine Met.ofW (cc := cX0_sideways) (maxL := 5) (ret := (some .int)) (by decide) rfl ?_
  intro p e s m args below meth c s₁ B hml hv
  obtain ⟨rfl, hP, hK⟩ := hv
  have hx := B.exec
  have hb := B.bytes
  have hr := B.returns
  have hT : ∀ w ∈ TB, w.before _ s = true := fun w h => atoms_spec (ws := Cond.code yX0_sideways cX0_sideways 5 (some .int) :: TB) B.pre w (List.mem_cons_of_mem _ h)
  have hown : s.vm.findClass RX0 = some m.cls := findClass_of_methodNamed B.named
  have hlocks := B.notSynchronized
  have hl := lv_entry ([.int (zI (a)), .int (zI (b)), .int (zI (dn))]) (n := 5) (Nat.le_of_ble_eq_true rfl)
  rw [lg_entry_eq]
  generalize (lg_sl ([.int (zI (a)), .int (zI (b)), .int (zI (dn))]) ++ List.replicate (5 - (lg_sl ([.int (zI (a)), .int (zI (b)), .int (zI (dn))])).length) Slot.unset).toArray = ls at hl ⊢
  have hl : lv_has ls 5 [(0, .int (zI (a))), (1, .int (zI (b))), (2, .int (zI (dn)))] := hl
  refine z_bipush hx hb dX0_sideways_0 (by decide +kernel) ?_
  refine lv_istore_n (lv' := [(3, .int (zI ((-12)))), (0, .int (zI (a))), (1, .int (zI (b))), (2, .int (zI (dn)))]) hx hb dX0_sideways_2 rfl hl (by decide) rfl (fun ls hl => ?_)
  refine z_loop (σ := Int × Array Slot) (fun zq => F0 m 3 (zq.2) []) (fun zq => ((-12 ≤ zq.1 ∧ zq.1 ≤ 13) ∧ fiR a b dn 25 = fiR a b dn (13 - zq.1).toNat) ∧ lv_has (zq.2) 5 [(0, .int (zI (a))), (1, .int (zI (b))), (2, .int (zI (dn))), (3, .int (zI (zq.1)))]) (fun zq => (13 - zq.1).toNat) ?_ ((-12), ls) ⟨⟨by dsimp only; omega, rfl⟩, lv_sub hl [1, 2, 3, 0] rfl⟩
  intro zq hq ih
  obtain ⟨i, ls⟩ := zq
  obtain ⟨⟨hI, hI2⟩, hl⟩ := hq
  try dsimp only at hI hI2 hl ih ⊢
  have ih3 := ih
  refine lv_iload_n hx hb dX0_sideways_3 rfl (lv_at hl 3 rfl) ?_
  refine z_bipush hx hb dX0_sideways_4 (by decide +kernel) ?_
  refine z_icmp_gt (tgt := 53) hx hb dX0_sideways_6 (by decide) (by omega) (by omega) (fun h6 => ?_) (fun h6 => ?_)
  · skip
    refine z_iconst hx hb dX0_sideways_53 ?_
    exact z_iret hx hb hr hlocks (by rw [hI2, show (13 - i).toNat = 0 by omega]; rfl) dX0_sideways_54
  · skip
    refine z_bipush hx hb dX0_sideways_9 (by decide +kernel) ?_
    refine lv_istore (lv' := [(4, .int (zI ((-12)))), (0, .int (zI (a))), (1, .int (zI (b))), (2, .int (zI (dn))), (3, .int (zI (i)))]) hx hb dX0_sideways_11 hl (by decide) rfl (fun ls hl => ?_)
    refine z_loop (σ := Int × Array Slot) (fun zq => F0 m 13 (zq.2) []) (fun zq => ((-12 ≤ zq.1 ∧ zq.1 ≤ 13) ∧ fiR a b dn 25 = oor (fjR a b dn i (13 - zq.1).toNat) (fiR a b dn (12 - i).toNat)) ∧ lv_has (zq.2) 5 [(0, .int (zI (a))), (1, .int (zI (b))), (2, .int (zI (dn))), (3, .int (zI (i))), (4, .int (zI (zq.1)))]) (fun zq => (13 - zq.1).toNat) ?_ ((-12), ls) ⟨⟨by dsimp only; omega, by dsimp only; rw [hI2, fiR_s a b dn (by omega)]; rfl⟩, lv_sub hl [1, 2, 3, 4, 0] rfl⟩
    intro zq hq ih
    obtain ⟨j, ls⟩ := zq
    obtain ⟨⟨hJ, hJ2⟩, hl⟩ := hq
    try dsimp only at hJ hJ2 hl ih ⊢
    have ih13 := ih
    refine lv_iload hx hb dX0_sideways_13 (lv_at hl 4 rfl) ?_
    refine z_bipush hx hb dX0_sideways_15 (by decide +kernel) ?_
    refine z_icmp_gt (tgt := 47) hx hb dX0_sideways_17 (by decide) (by omega) (by omega) (fun h17 => ?_) (fun h17 => ?_)
    · skip
      refine lv_iinc (v := zI (i + (1))) (lv' := [(3, .int (zI (i + (1)))), (0, .int (zI (a))), (1, .int (zI (b))), (2, .int (zI (dn))), (4, .int (zI (j)))]) hx hb dX0_sideways_47 hl (k := 3) rfl (zI_add _ _) (by decide) rfl (fun ls hl => ?_)
      refine z_goto (tgt := 3) hx hb dX0_sideways_50 (by decide) ?_
      exact ih3 (i + 1, ls) ⟨⟨by dsimp only; omega, by dsimp only; rw [hJ2, show (13 - j).toNat = 0 by omega, show 13 - (i + 1) = 12 - i by omega]; rfl⟩, lv_sub hl [1, 2, 3, 0] rfl⟩ (by omega)
    · skip
      have m1 := mul_bs (a := b) (b := i) (A := 12) (B := 12) (by omega) (by omega)
      have m2 := mul_bs (a := a) (b := j) (A := 12) (B := 12) (by omega) (by omega)
      have m3 := mul_bs (a := a) (b := i) (A := 12) (B := 12) (by omega) (by omega)
      have m4 := mul_bs (a := b) (b := j) (A := 12) (B := 12) (by omega) (by omega)
      refine lv_iload_n hx hb dX0_sideways_20 rfl (lv_at hl 1 rfl) ?_
      refine lv_iload_n hx hb dX0_sideways_21 rfl (lv_at hl 3 rfl) ?_
      refine z_imul hx hb dX0_sideways_22 ?_
      refine lv_iload_n hx hb dX0_sideways_23 rfl (lv_at hl 0 rfl) ?_
      refine lv_iload hx hb dX0_sideways_24 (lv_at hl 4 rfl) ?_
      refine z_imul hx hb dX0_sideways_26 ?_
      refine z_iadd hx hb dX0_sideways_27 ?_
      refine lv_iload_n hx hb dX0_sideways_28 rfl (lv_at hl 2 rfl) ?_
      refine z_icmp_ne (tgt := 41) hx hb dX0_sideways_29 (by decide) (by omega) (by omega) (fun h29 => ?_) (fun h29 => ?_)
      · skip
        refine lv_iinc (v := zI (j + (1))) (lv' := [(4, .int (zI (j + (1)))), (0, .int (zI (a))), (1, .int (zI (b))), (2, .int (zI (dn))), (3, .int (zI (i)))]) hx hb dX0_sideways_41 hl (k := 4) rfl (zI_add _ _) (by decide) rfl (fun ls hl => ?_)
        refine z_goto (tgt := 13) hx hb dX0_sideways_44 (by decide) ?_
        exact ih13 (j + 1, ls) ⟨⟨by dsimp only; omega, by dsimp only; rw [hJ2, fjR_s a b dn i (by omega), if_neg h29, show 13 - (j + 1) = 12 - j by omega]⟩, lv_sub hl [1, 2, 3, 4, 0] rfl⟩ (by omega)
      · skip
        refine lv_iload_n hx hb dX0_sideways_32 rfl (lv_at hl 0 rfl) ?_
        refine lv_iload_n hx hb dX0_sideways_33 rfl (lv_at hl 3 rfl) ?_
        refine z_imul hx hb dX0_sideways_34 ?_
        refine lv_iload_n hx hb dX0_sideways_35 rfl (lv_at hl 1 rfl) ?_
        refine lv_iload hx hb dX0_sideways_36 (lv_at hl 4 rfl) ?_
        refine z_imul hx hb dX0_sideways_38 ?_
        refine z_isub hx hb dX0_sideways_39 ?_
        exact z_iret hx hb hr hlocks (by rw [hJ2, fjR_s a b dn i (by omega), if_pos h29]; rfl) dX0_sideways_40

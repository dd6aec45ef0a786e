/-! ===== the reference: its cells, what holds of them, what it reads ===== -/
abbrev mdL (G : zG) (md ma mb mc mt m1 m2 m3 m4 m5 m6 m7 : Nat) (th w h cnt most rch tl nc : Int) (M Y C T CA CB CN CG CS Z K : Int → Int) : va_W := [(md, .inr (6, [.int (zI th), .int (zI w), .int (zI h), .int (zI cnt), .ref ma, .ref mb, .ref mc, .int (zI most), .int (zI rch), .ref mt, .int (zI tl), .int (zI nc), .ref m1, .ref m2, .ref m3, .ref m4, .ref m5, .ref m6, .ref m7])), ia G ma 32 M, ia G mb 1536 Y, ia G mc 8 C, ia G mt 256 T, ia G m1 6 CA, ia G m2 6 CB, ia G m3 6 CN, ia G m4 6 CG, ia G m5 6 CS, ia G m6 1800 Z, ia G m7 1800 K]
def clIn (CN CG CS : Int → Int) (c : Int) : Prop := (1 ≤ CG c ∧ CG c ≤ 12) ∧ (1 ≤ CN c ∧ CN c ≤ 288) ∧ (-300 ≤ CS c ∧ CS c ≤ 300) ∧ CG c * (CN c / CG c) = CN c
def mdOK (w h cnt most rch tl nc : Int) (M Y C T CN CG CS K : Int → Int) : Prop := (1 ≤ w ∧ w ≤ 16) ∧ (1 ≤ h ∧ h ≤ 12) ∧ (4 ≤ cnt ∧ cnt ≤ 8) ∧ (0 ≤ most ∧ most ≤ 2040) ∧ (0 ≤ rch ∧ rch ≤ 3) ∧ (∀ j, 0 ≤ M j ∧ M j ≤ 255) ∧ (∀ j, 0 ≤ Y j ∧ Y j ≤ 255) ∧ (∀ j, -1 ≤ C j ∧ C j ≤ 255) ∧ (∀ j, -1 ≤ T j ∧ T j ≤ 255) ∧ T 0 ≠ -1 ∧ T 255 ≠ -1 ∧ (2 ≤ tl ∧ tl ≤ 12) ∧ (0 ≤ nc ∧ nc ≤ 6) ∧ (∀ c, 0 ≤ c → c < nc → clIn CN CG CS c) ∧ (∀ j, 0 ≤ K j ∧ K j ≤ 1000)
theorem md_pts {w h cnt most rch tl nc : Int} {M Y C T CN CG CS K : Int → Int} (hm : mdOK w h cnt most rch tl nc M Y C T CN CG CS K) : 1 ≤ w * h ∧ w * h ≤ 192 := by
  obtain ⟨hw, hh, -⟩ := hm
  have h1 := mul_b (a := w - 1) (b := h) (A := 15) (B := 12) (by omega) (by omega)
  have h2 : (w - 1) * h = w * h - h := by rw [Int.sub_mul, Int.one_mul]
  omega
/-- the plates as the class lays them, out of the reference's bytes -/
def PPf (Y : Int → Int) (w pts : Int) : Int → Int := fun j => Y (8 * (16 * (j % pts / w) + j % pts % w) + j / pts)
theorem qr {a b r : Int} (hb : 0 < b) (hr : 0 ≤ r ∧ r < b) : (r + b * a) % b = r ∧ (r + b * a) / b = a := by
  constructor
  · rw [Int.add_mul_emod_self_left, Int.emod_eq_of_lt hr.1 hr.2]
  · rw [Int.add_mul_ediv_left _ _ (by omega), Int.ediv_eq_zero_of_lt hr.1 hr.2, Int.zero_add]
theorem PP_at (Y : Int → Int) {w pts x y k : Int} (hx : 0 ≤ x ∧ x < w) (hq : 0 ≤ x + w * y ∧ x + w * y < pts) : PPf Y w pts (k * pts + (x + w * y)) = Y (8 * (16 * y + x) + k) := by
  have h1 := qr (a := k) (b := pts) (r := x + w * y) (by omega) hq
  have h2 := qr (a := y) (b := w) (r := x) (by omega) hx
  have h3 : k * pts + (x + w * y) = x + w * y + pts * k := by rw [Int.mul_comm]; omega
  unfold PPf
  rw [h3, h1.1, h1.2, h2.1, h2.2]
theorem PP_q (Y : Int → Int) {w pts q k : Int} (hq : 0 ≤ q ∧ q < pts) : PPf Y w pts (k * pts + q) = Y (8 * (16 * (q / w) + q % w) + k) := by
  have h1 := qr (a := k) (b := pts) (r := q) (by omega) hq
  have h3 : k * pts + q = q + pts * k := by rw [Int.mul_comm]; omega
  unfold PPf
  rw [h3, h1.1, h1.2]
theorem q_xy {w h q : Int} (hw : 1 ≤ w) (hq : 0 ≤ q ∧ q < w * h) : (0 ≤ q % w ∧ q % w < w) ∧ (0 ≤ q / w ∧ q / w < h) := by
  refine ⟨⟨Int.emod_nonneg q (by omega), Int.emod_lt_of_pos q (by omega)⟩, Int.ediv_nonneg hq.1 (by omega), ?_⟩
  apply Int.not_le.mp; intro c
  have h1 := Int.mul_ediv_add_emod q w
  have h2 := Int.emod_nonneg q (show w ≠ 0 by omega)
  have h3 := Int.mul_le_mul_of_nonneg_left (a := h) (b := q / w) (c := w) c (by omega)
  omega
theorem unl_self (P : Int → Int) (pts cnt p : Int) : unlB P pts cnt p p = false := by
  unfold unlB
  have h1 : (fun k => mk25 P pts p k && mk25 P pts p k) = mk25 P pts p := by funext k; simp
  rw [h1]; cases anyB (mk25 P pts p) cnt.toNat <;> rfl
theorem nmV_mod {dp br sl x y : Int} : nmV dp br (sl % br) x y = nmV dp br sl x y := by
  unfold nmV
  have h1 : x - y / dp * (sl % br) = x - y / dp * sl + br * (y / dp * (sl / br)) := by
    have := Int.mul_ediv_add_emod sl br
    have h2 : y / dp * sl = y / dp * (br * (sl / br)) + y / dp * (sl % br) := by rw [← Int.mul_add, this]
    have h3 : y / dp * (br * (sl / br)) = br * (y / dp * (sl / br)) := by rw [← Int.mul_assoc, Int.mul_comm (y / dp) br, Int.mul_assoc]
    omega
  rw [h1, Int.add_mul_emod_self_left]

set_option maxHeartbeats 4000000 in
set_option maxRecDepth 100000 in
theorem c_X5_thrown (l : Launch) (G : zG) (md ma mb mc mt m1 m2 m3 m4 m5 m6 m7 : Nat) (th w h cnt most rch tl nc : Int) (M Y C T CA CB CN CG CS Z K : Int → Int)  : zRd l yX5_thrown cX5_thrown 1 (some .int) { frames := 0, cells := 0, slots := 0, locals := 0 } G [.ref md] (mdL G md ma mb mc mt m1 m2 m3 m4 m5 m6 m7 th w h cnt most rch tl nc M Y C T CA CB CN CG CS Z K) (th) := by
  refine Met.ofW (cc := cX5_thrown) (maxL := 1) (ret := (some .int)) (by decide) rfl ?_
  intro p e s m args below meth c s₁ B hml hv
  obtain ⟨rfl, hP, hK⟩ := hv
  have hx := B.exec
  have hb := B.bytes
  have hr := B.returns
  have hT : ∀ w ∈ TB, w.before _ s = true := fun w h => atoms_spec (ws := Cond.code yX5_thrown cX5_thrown 1 (some .int) :: TB) B.pre w (List.mem_cons_of_mem _ h)
  have hown : s.vm.findClass RX5 = some m.cls := findClass_of_methodNamed B.named
  have hlocks := B.notSynchronized
  have hl := lv_entry ([.ref md]) (n := 1) (Nat.le_of_ble_eq_true rfl)
  rw [lg_entry_eq]
  generalize (lg_sl ([.ref md]) ++ List.replicate (1 - (lg_sl ([.ref md])).length) Slot.unset).toArray = ls at hl ⊢
  have hl : lv_has ls 1 [(0, .ref md)] := hl
  refine lv_aload_n hx hb dX5_thrown_0 rfl (lv_at hl 0 rfl) ?_
  refine gf_X5_62 hx hb hT hown hK hP 0 rfl rfl dX5_thrown_1 ?_
  exact z_iret hx hb hr hlocks (rfl) dX5_thrown_4

set_option maxHeartbeats 4000000 in
set_option maxRecDepth 100000 in
theorem c_X5_isByte (l : Launch) (G : zG) (v : Int) (hv : -2147483648 ≤ v ∧ v ≤ 2147483647) : zRd l yX5_isByte cX5_isByte 1 (some .boolean) { frames := 0, cells := 0, slots := 0, locals := 0 } G [.int (zI (v))] ([]) (bI (decide (0 ≤ v) && decide (v ≤ 255))) := by
  refine Met.ofW (cc := cX5_isByte) (maxL := 1) (ret := (some .boolean)) (by decide) rfl ?_
  intro p e s m args below meth c s₁ B hml hv
  obtain ⟨rfl, hP, hK⟩ := hv
  have hx := B.exec
  have hb := B.bytes
  have hr := B.returns
  have hT : ∀ w ∈ TB, w.before _ s = true := fun w h => atoms_spec (ws := Cond.code yX5_isByte cX5_isByte 1 (some .boolean) :: TB) B.pre w (List.mem_cons_of_mem _ h)
  have hown : s.vm.findClass RX5 = some m.cls := findClass_of_methodNamed B.named
  have hlocks := B.notSynchronized
  have hl := lv_entry ([.int (zI (v))]) (n := 1) (Nat.le_of_ble_eq_true rfl)
  rw [lg_entry_eq]
  generalize (lg_sl ([.int (zI (v))]) ++ List.replicate (1 - (lg_sl ([.int (zI (v))])).length) Slot.unset).toArray = ls at hl ⊢
  have hl : lv_has ls 1 [(0, .int (zI (v)))] := hl
  refine lv_iload_n hx hb dX5_isByte_0 rfl (lv_at hl 0 rfl) ?_
  refine z_if_lt (tgt := 15) hx hb dX5_isByte_1 (by decide) (by omega) (fun h1 => ?_) (fun h1 => ?_)
  · skip
    refine z_iconst hx hb dX5_isByte_15 ?_
    exact z_zret hx hb hr hlocks (by first | exact Or.inl rfl | exact Or.inr rfl) (by refine bI_cases (fun h9 => ?_) (fun h9 => ?_) <;> first | rfl | (exfalso; simp only [Bool.and_eq_true, Bool.and_eq_false_iff, Bool.or_eq_true, Bool.or_eq_false_iff, decide_eq_true_eq, decide_eq_false_iff_not] at h9; omega)) dX5_isByte_16
  · skip
    refine lv_iload_n hx hb dX5_isByte_4 rfl (lv_at hl 0 rfl) ?_
    refine z_sipush hx hb dX5_isByte_5 (by decide +kernel) ?_
    refine z_icmp_gt (tgt := 15) hx hb dX5_isByte_8 (by decide) (by omega) (by omega) (fun h8 => ?_) (fun h8 => ?_)
    · skip
      refine z_iconst hx hb dX5_isByte_15 ?_
      exact z_zret hx hb hr hlocks (by first | exact Or.inl rfl | exact Or.inr rfl) (by refine bI_cases (fun h9 => ?_) (fun h9 => ?_) <;> first | rfl | (exfalso; simp only [Bool.and_eq_true, Bool.and_eq_false_iff, Bool.or_eq_true, Bool.or_eq_false_iff, decide_eq_true_eq, decide_eq_false_iff_not] at h9; omega)) dX5_isByte_16
    · skip
      refine z_iconst hx hb dX5_isByte_11 ?_
      refine z_goto (tgt := 16) hx hb dX5_isByte_12 (by decide) ?_
      exact z_zret hx hb hr hlocks (by first | exact Or.inl rfl | exact Or.inr rfl) (by refine bI_cases (fun h9 => ?_) (fun h9 => ?_) <;> first | rfl | (exfalso; simp only [Bool.and_eq_true, Bool.and_eq_false_iff, Bool.or_eq_true, Bool.or_eq_false_iff, decide_eq_true_eq, decide_eq_false_iff_not] at h9; omega)) dX5_isByte_16

set_option maxHeartbeats 4000000 in
set_option maxRecDepth 100000 in
theorem c_X4_isByte (l : Launch) (G : zG) (v : Int) (hv : -2147483648 ≤ v ∧ v ≤ 2147483647) : zRd l yX4_isByte cX4_isByte 1 (some .boolean) { frames := 0, cells := 0, slots := 0, locals := 0 } G [.int (zI (v))] ([]) (bI (decide (0 ≤ v) && decide (v ≤ 255))) := by
  refine Met.ofW (cc := cX4_isByte) (maxL := 1) (ret := (some .boolean)) (by decide) rfl ?_
  intro p e s m args below meth c s₁ B hml hv
  obtain ⟨rfl, hP, hK⟩ := hv
  have hx := B.exec
  have hb := B.bytes
  have hr := B.returns
  have hT : ∀ w ∈ TB, w.before _ s = true := fun w h => atoms_spec (ws := Cond.code yX4_isByte cX4_isByte 1 (some .boolean) :: TB) B.pre w (List.mem_cons_of_mem _ h)
  have hown : s.vm.findClass RX4 = some m.cls := findClass_of_methodNamed B.named
  have hlocks := B.notSynchronized
  have hl := lv_entry ([.int (zI (v))]) (n := 1) (Nat.le_of_ble_eq_true rfl)
  rw [lg_entry_eq]
  generalize (lg_sl ([.int (zI (v))]) ++ List.replicate (1 - (lg_sl ([.int (zI (v))])).length) Slot.unset).toArray = ls at hl ⊢
  have hl : lv_has ls 1 [(0, .int (zI (v)))] := hl
  refine lv_iload_n hx hb dX4_isByte_0 rfl (lv_at hl 0 rfl) ?_
  refine z_if_lt (tgt := 15) hx hb dX4_isByte_1 (by decide) (by omega) (fun h1 => ?_) (fun h1 => ?_)
  · skip
    refine z_iconst hx hb dX4_isByte_15 ?_
    exact z_zret hx hb hr hlocks (by first | exact Or.inl rfl | exact Or.inr rfl) (by refine bI_cases (fun h9 => ?_) (fun h9 => ?_) <;> first | rfl | (exfalso; simp only [Bool.and_eq_true, Bool.and_eq_false_iff, Bool.or_eq_true, Bool.or_eq_false_iff, decide_eq_true_eq, decide_eq_false_iff_not] at h9; omega)) dX4_isByte_16
  · skip
    refine lv_iload_n hx hb dX4_isByte_4 rfl (lv_at hl 0 rfl) ?_
    refine z_sipush hx hb dX4_isByte_5 (by decide +kernel) ?_
    refine z_icmp_gt (tgt := 15) hx hb dX4_isByte_8 (by decide) (by omega) (by omega) (fun h8 => ?_) (fun h8 => ?_)
    · skip
      refine z_iconst hx hb dX4_isByte_15 ?_
      exact z_zret hx hb hr hlocks (by first | exact Or.inl rfl | exact Or.inr rfl) (by refine bI_cases (fun h9 => ?_) (fun h9 => ?_) <;> first | rfl | (exfalso; simp only [Bool.and_eq_true, Bool.and_eq_false_iff, Bool.or_eq_true, Bool.or_eq_false_iff, decide_eq_true_eq, decide_eq_false_iff_not] at h9; omega)) dX4_isByte_16
    · skip
      refine z_iconst hx hb dX4_isByte_11 ?_
      refine z_goto (tgt := 16) hx hb dX4_isByte_12 (by decide) ?_
      exact z_zret hx hb hr hlocks (by first | exact Or.inl rfl | exact Or.inr rfl) (by refine bI_cases (fun h9 => ?_) (fun h9 => ?_) <;> first | rfl | (exfalso; simp only [Bool.and_eq_true, Bool.and_eq_false_iff, Bool.or_eq_true, Bool.or_eq_false_iff, decide_eq_true_eq, decide_eq_false_iff_not] at h9; omega)) dX4_isByte_16

set_option maxHeartbeats 4000000 in
set_option maxRecDepth 100000 in
theorem c_X5_isNear (l : Launch) (G : zG) (v : Int) (hv : -2147483648 ≤ v ∧ v ≤ 2147483647) : zRd l yX5_isNear cX5_isNear 1 (some .boolean) { frames := 0, cells := 0, slots := 0, locals := 0 } G [.int (zI (v))] ([]) (bI (decide (-1000000 ≤ v) && decide (v ≤ 1000000))) := by
  refine Met.ofW (cc := cX5_isNear) (maxL := 1) (ret := (some .boolean)) (by decide) rfl ?_
  intro p e s m args below meth c s₁ B hml hv
  obtain ⟨rfl, hP, hK⟩ := hv
  have hx := B.exec
  have hb := B.bytes
  have hr := B.returns
  have hT : ∀ w ∈ TB, w.before _ s = true := fun w h => atoms_spec (ws := Cond.code yX5_isNear cX5_isNear 1 (some .boolean) :: TB) B.pre w (List.mem_cons_of_mem _ h)
  have hown : s.vm.findClass RX5 = some m.cls := findClass_of_methodNamed B.named
  have hlocks := B.notSynchronized
  have hl := lv_entry ([.int (zI (v))]) (n := 1) (Nat.le_of_ble_eq_true rfl)
  rw [lg_entry_eq]
  generalize (lg_sl ([.int (zI (v))]) ++ List.replicate (1 - (lg_sl ([.int (zI (v))])).length) Slot.unset).toArray = ls at hl ⊢
  have hl : lv_has ls 1 [(0, .int (zI (v)))] := hl
  refine lv_iload_n hx hb dX5_isNear_0 rfl (lv_at hl 0 rfl) ?_
  refine lv_ldc (v := zI (-1000000)) hx hb hown (hT _ (mT 741 (by decide +kernel) rfl)) dX5_isNear_1 ?_
  refine z_icmp_lt (tgt := 16) hx hb dX5_isNear_3 (by decide) (by omega) (by omega) (fun h3 => ?_) (fun h3 => ?_)
  · skip
    refine z_iconst hx hb dX5_isNear_16 ?_
    exact z_zret hx hb hr hlocks (by first | exact Or.inl rfl | exact Or.inr rfl) (by refine bI_cases (fun h9 => ?_) (fun h9 => ?_) <;> first | rfl | (exfalso; simp only [Bool.and_eq_true, Bool.and_eq_false_iff, Bool.or_eq_true, Bool.or_eq_false_iff, decide_eq_true_eq, decide_eq_false_iff_not] at h9; omega)) dX5_isNear_17
  · skip
    refine lv_iload_n hx hb dX5_isNear_6 rfl (lv_at hl 0 rfl) ?_
    refine lv_ldc (v := zI (1000000)) hx hb hown (hT _ (mT 742 (by decide +kernel) rfl)) dX5_isNear_7 ?_
    refine z_icmp_gt (tgt := 16) hx hb dX5_isNear_9 (by decide) (by omega) (by omega) (fun h9 => ?_) (fun h9 => ?_)
    · skip
      refine z_iconst hx hb dX5_isNear_16 ?_
      exact z_zret hx hb hr hlocks (by first | exact Or.inl rfl | exact Or.inr rfl) (by refine bI_cases (fun h9 => ?_) (fun h9 => ?_) <;> first | rfl | (exfalso; simp only [Bool.and_eq_true, Bool.and_eq_false_iff, Bool.or_eq_true, Bool.or_eq_false_iff, decide_eq_true_eq, decide_eq_false_iff_not] at h9; omega)) dX5_isNear_17
    · skip
      refine z_iconst hx hb dX5_isNear_12 ?_
      refine z_goto (tgt := 17) hx hb dX5_isNear_13 (by decide) ?_
      exact z_zret hx hb hr hlocks (by first | exact Or.inl rfl | exact Or.inr rfl) (by refine bI_cases (fun h9 => ?_) (fun h9 => ?_) <;> first | rfl | (exfalso; simp only [Bool.and_eq_true, Bool.and_eq_false_iff, Bool.or_eq_true, Bool.or_eq_false_iff, decide_eq_true_eq, decide_eq_false_iff_not] at h9; omega)) dX5_isNear_17

set_option maxHeartbeats 4000000 in
set_option maxRecDepth 100000 in
theorem c_X4_isTooFar (l : Launch) (G : zG) (v : Int) (hv : -2147483648 ≤ v ∧ v ≤ 2147483647) : zRd l yX4_isTooFar cX4_isTooFar 1 (some .boolean) { frames := 0, cells := 0, slots := 0, locals := 0 } G [.int (zI (v))] ([]) (bI (decide (v < -1000000) || decide (1000000 < v))) := by
  refine Met.ofW (cc := cX4_isTooFar) (maxL := 1) (ret := (some .boolean)) (by decide) rfl ?_
  intro p e s m args below meth c s₁ B hml hv
  obtain ⟨rfl, hP, hK⟩ := hv
  have hx := B.exec
  have hb := B.bytes
  have hr := B.returns
  have hT : ∀ w ∈ TB, w.before _ s = true := fun w h => atoms_spec (ws := Cond.code yX4_isTooFar cX4_isTooFar 1 (some .boolean) :: TB) B.pre w (List.mem_cons_of_mem _ h)
  have hown : s.vm.findClass RX4 = some m.cls := findClass_of_methodNamed B.named
  have hlocks := B.notSynchronized
  have hl := lv_entry ([.int (zI (v))]) (n := 1) (Nat.le_of_ble_eq_true rfl)
  rw [lg_entry_eq]
  generalize (lg_sl ([.int (zI (v))]) ++ List.replicate (1 - (lg_sl ([.int (zI (v))])).length) Slot.unset).toArray = ls at hl ⊢
  have hl : lv_has ls 1 [(0, .int (zI (v)))] := hl
  refine lv_iload_n hx hb dX4_isTooFar_0 rfl (lv_at hl 0 rfl) ?_
  refine lv_ldc (v := zI (-1000000)) hx hb hown (hT _ (mT 501 (by decide +kernel) rfl)) dX4_isTooFar_1 ?_
  refine z_icmp_lt (tgt := 12) hx hb dX4_isTooFar_3 (by decide) (by omega) (by omega) (fun h3 => ?_) (fun h3 => ?_)
  · skip
    refine z_iconst hx hb dX4_isTooFar_12 ?_
    refine z_goto (tgt := 17) hx hb dX4_isTooFar_13 (by decide) ?_
    exact z_zret hx hb hr hlocks (by first | exact Or.inl rfl | exact Or.inr rfl) (by refine bI_cases (fun h9 => ?_) (fun h9 => ?_) <;> first | rfl | (exfalso; simp only [Bool.and_eq_true, Bool.and_eq_false_iff, Bool.or_eq_true, Bool.or_eq_false_iff, decide_eq_true_eq, decide_eq_false_iff_not] at h9; omega)) dX4_isTooFar_17
  · skip
    refine lv_iload_n hx hb dX4_isTooFar_6 rfl (lv_at hl 0 rfl) ?_
    refine lv_ldc (v := zI (1000000)) hx hb hown (hT _ (mT 502 (by decide +kernel) rfl)) dX4_isTooFar_7 ?_
    refine z_icmp_le (tgt := 16) hx hb dX4_isTooFar_9 (by decide) (by omega) (by omega) (fun h9 => ?_) (fun h9 => ?_)
    · skip
      refine z_iconst hx hb dX4_isTooFar_16 ?_
      exact z_zret hx hb hr hlocks (by first | exact Or.inl rfl | exact Or.inr rfl) (by refine bI_cases (fun h9 => ?_) (fun h9 => ?_) <;> first | rfl | (exfalso; simp only [Bool.and_eq_true, Bool.and_eq_false_iff, Bool.or_eq_true, Bool.or_eq_false_iff, decide_eq_true_eq, decide_eq_false_iff_not] at h9; omega)) dX4_isTooFar_17
    · skip
      refine z_iconst hx hb dX4_isTooFar_12 ?_
      refine z_goto (tgt := 17) hx hb dX4_isTooFar_13 (by decide) ?_
      exact z_zret hx hb hr hlocks (by first | exact Or.inl rfl | exact Or.inr rfl) (by refine bI_cases (fun h9 => ?_) (fun h9 => ?_) <;> first | rfl | (exfalso; simp only [Bool.and_eq_true, Bool.and_eq_false_iff, Bool.or_eq_true, Bool.or_eq_false_iff, decide_eq_true_eq, decide_eq_false_iff_not] at h9; omega)) dX4_isTooFar_17

set_option maxHeartbeats 4000000 in
set_option maxRecDepth 100000 in
theorem c_X5_isInk (l : Launch) (G : zG) (md ma mb mc mt m1 m2 m3 m4 m5 m6 m7 : Nat) (th w h cnt most rch tl nc : Int) (M Y C T CA CB CN CG CS Z K : Int → Int) (v : Int) (hm : mdOK w h cnt most rch tl nc M Y C T CN CG CS K) (hv : -2147483648 ≤ v ∧ v ≤ 2147483647) : zRd l yX5_isInk cX5_isInk 2 (some .boolean) { frames := 0, cells := 0, slots := 0, locals := 0 } G [.ref md, .int (zI (v))] (mdL G md ma mb mc mt m1 m2 m3 m4 m5 m6 m7 th w h cnt most rch tl nc M Y C T CA CB CN CG CS Z K) (bI (decide (0 ≤ v) && decide (v < cnt))) := by
  refine Met.ofW (cc := cX5_isInk) (maxL := 2) (ret := (some .boolean)) (by decide) rfl ?_
  intro p e s m args below meth c s₁ B hml hv
  obtain ⟨rfl, hP, hK⟩ := hv
  have hx := B.exec
  have hb := B.bytes
  have hr := B.returns
  have hT : ∀ w ∈ TB, w.before _ s = true := fun w h => atoms_spec (ws := Cond.code yX5_isInk cX5_isInk 2 (some .boolean) :: TB) B.pre w (List.mem_cons_of_mem _ h)
  have hown : s.vm.findClass RX5 = some m.cls := findClass_of_methodNamed B.named
  have hlocks := B.notSynchronized
  have hl := lv_entry ([.ref md, .int (zI (v))]) (n := 2) (Nat.le_of_ble_eq_true rfl)
  rw [lg_entry_eq]
  generalize (lg_sl ([.ref md, .int (zI (v))]) ++ List.replicate (2 - (lg_sl ([.ref md, .int (zI (v))])).length) Slot.unset).toArray = ls at hl ⊢
  have hl : lv_has ls 2 [(0, .ref md), (1, .int (zI (v)))] := hl
  obtain ⟨hw, hh, hcnt, hmost, hrch, hM, hY, hC, hTb, hT0, hT5, htl, hnc, hcl, hKb⟩ := id hm
  have hpt := md_pts hm
  have hPb : ∀ j, 0 ≤ PPf Y w (w * h) j ∧ PPf Y w (w * h) j ≤ 255 := fun j => hY _
  refine lv_iload_n hx hb dX5_isInk_0 rfl (lv_at hl 1 rfl) ?_
  refine z_if_lt (tgt := 16) hx hb dX5_isInk_1 (by decide) (by omega) (fun h1 => ?_) (fun h1 => ?_)
  · skip
    refine z_iconst hx hb dX5_isInk_16 ?_
    exact z_zret hx hb hr hlocks (by first | exact Or.inl rfl | exact Or.inr rfl) (by refine bI_cases (fun h9 => ?_) (fun h9 => ?_) <;> first | rfl | (exfalso; simp only [Bool.and_eq_true, Bool.and_eq_false_iff, Bool.or_eq_true, Bool.or_eq_false_iff, decide_eq_true_eq, decide_eq_false_iff_not] at h9; omega)) dX5_isInk_17
  · skip
    refine lv_iload_n hx hb dX5_isInk_4 rfl (lv_at hl 1 rfl) ?_
    refine lv_aload_n hx hb dX5_isInk_5 rfl (lv_at hl 0 rfl) ?_
    refine gf_X5_7 hx hb hT hown hK hP 0 rfl rfl dX5_isInk_6 ?_
    refine z_icmp_ge (tgt := 16) hx hb dX5_isInk_9 (by decide) (by omega) (by omega) (fun h9 => ?_) (fun h9 => ?_)
    · skip
      refine z_iconst hx hb dX5_isInk_16 ?_
      exact z_zret hx hb hr hlocks (by first | exact Or.inl rfl | exact Or.inr rfl) (by refine bI_cases (fun h9 => ?_) (fun h9 => ?_) <;> first | rfl | (exfalso; simp only [Bool.and_eq_true, Bool.and_eq_false_iff, Bool.or_eq_true, Bool.or_eq_false_iff, decide_eq_true_eq, decide_eq_false_iff_not] at h9; omega)) dX5_isInk_17
    · skip
      refine z_iconst hx hb dX5_isInk_12 ?_
      refine z_goto (tgt := 17) hx hb dX5_isInk_13 (by decide) ?_
      exact z_zret hx hb hr hlocks (by first | exact Or.inl rfl | exact Or.inr rfl) (by refine bI_cases (fun h9 => ?_) (fun h9 => ?_) <;> first | rfl | (exfalso; simp only [Bool.and_eq_true, Bool.and_eq_false_iff, Bool.or_eq_true, Bool.or_eq_false_iff, decide_eq_true_eq, decide_eq_false_iff_not] at h9; omega)) dX5_isInk_17

set_option maxHeartbeats 4000000 in
set_option maxRecDepth 100000 in
theorem c_X5_isCell (l : Launch) (G : zG) (md ma mb mc mt m1 m2 m3 m4 m5 m6 m7 : Nat) (th w h cnt most rch tl nc : Int) (M Y C T CA CB CN CG CS Z K : Int → Int) (v : Int) (hm : mdOK w h cnt most rch tl nc M Y C T CN CG CS K) (hv : -2147483648 ≤ v ∧ v ≤ 2147483647) : zRd l yX5_isCell cX5_isCell 2 (some .boolean) { frames := 0, cells := 0, slots := 0, locals := 0 } G [.ref md, .int (zI (v))] (mdL G md ma mb mc mt m1 m2 m3 m4 m5 m6 m7 th w h cnt most rch tl nc M Y C T CA CB CN CG CS Z K) (bI (decide (0 ≤ v) && decide (v < nc))) := by
  refine Met.ofW (cc := cX5_isCell) (maxL := 2) (ret := (some .boolean)) (by decide) rfl ?_
  intro p e s m args below meth c s₁ B hml hv
  obtain ⟨rfl, hP, hK⟩ := hv
  have hx := B.exec
  have hb := B.bytes
  have hr := B.returns
  have hT : ∀ w ∈ TB, w.before _ s = true := fun w h => atoms_spec (ws := Cond.code yX5_isCell cX5_isCell 2 (some .boolean) :: TB) B.pre w (List.mem_cons_of_mem _ h)
  have hown : s.vm.findClass RX5 = some m.cls := findClass_of_methodNamed B.named
  have hlocks := B.notSynchronized
  have hl := lv_entry ([.ref md, .int (zI (v))]) (n := 2) (Nat.le_of_ble_eq_true rfl)
  rw [lg_entry_eq]
  generalize (lg_sl ([.ref md, .int (zI (v))]) ++ List.replicate (2 - (lg_sl ([.ref md, .int (zI (v))])).length) Slot.unset).toArray = ls at hl ⊢
  have hl : lv_has ls 2 [(0, .ref md), (1, .int (zI (v)))] := hl
  obtain ⟨hw, hh, hcnt, hmost, hrch, hM, hY, hC, hTb, hT0, hT5, htl, hnc, hcl, hKb⟩ := id hm
  have hpt := md_pts hm
  have hPb : ∀ j, 0 ≤ PPf Y w (w * h) j ∧ PPf Y w (w * h) j ≤ 255 := fun j => hY _
  refine lv_iload_n hx hb dX5_isCell_0 rfl (lv_at hl 1 rfl) ?_
  refine z_if_lt (tgt := 16) hx hb dX5_isCell_1 (by decide) (by omega) (fun h1 => ?_) (fun h1 => ?_)
  · skip
    refine z_iconst hx hb dX5_isCell_16 ?_
    exact z_zret hx hb hr hlocks (by first | exact Or.inl rfl | exact Or.inr rfl) (by refine bI_cases (fun h9 => ?_) (fun h9 => ?_) <;> first | rfl | (exfalso; simp only [Bool.and_eq_true, Bool.and_eq_false_iff, Bool.or_eq_true, Bool.or_eq_false_iff, decide_eq_true_eq, decide_eq_false_iff_not] at h9; omega)) dX5_isCell_17
  · skip
    refine lv_iload_n hx hb dX5_isCell_4 rfl (lv_at hl 1 rfl) ?_
    refine lv_aload_n hx hb dX5_isCell_5 rfl (lv_at hl 0 rfl) ?_
    refine gf_X5_119 hx hb hT hown hK hP 0 rfl rfl dX5_isCell_6 ?_
    refine z_icmp_ge (tgt := 16) hx hb dX5_isCell_9 (by decide) (by omega) (by omega) (fun h9 => ?_) (fun h9 => ?_)
    · skip
      refine z_iconst hx hb dX5_isCell_16 ?_
      exact z_zret hx hb hr hlocks (by first | exact Or.inl rfl | exact Or.inr rfl) (by refine bI_cases (fun h9 => ?_) (fun h9 => ?_) <;> first | rfl | (exfalso; simp only [Bool.and_eq_true, Bool.and_eq_false_iff, Bool.or_eq_true, Bool.or_eq_false_iff, decide_eq_true_eq, decide_eq_false_iff_not] at h9; omega)) dX5_isCell_17
    · skip
      refine z_iconst hx hb dX5_isCell_12 ?_
      refine z_goto (tgt := 17) hx hb dX5_isCell_13 (by decide) ?_
      exact z_zret hx hb hr hlocks (by first | exact Or.inl rfl | exact Or.inr rfl) (by refine bI_cases (fun h9 => ?_) (fun h9 => ?_) <;> first | rfl | (exfalso; simp only [Bool.and_eq_true, Bool.and_eq_false_iff, Bool.or_eq_true, Bool.or_eq_false_iff, decide_eq_true_eq, decide_eq_false_iff_not] at h9; omega)) dX5_isCell_17

set_option maxHeartbeats 4000000 in
set_option maxRecDepth 100000 in
theorem c_X5_isPoint (l : Launch) (G : zG) (md ma mb mc mt m1 m2 m3 m4 m5 m6 m7 : Nat) (th w h cnt most rch tl nc : Int) (M Y C T CA CB CN CG CS Z K : Int → Int) (x y : Int) (hm : mdOK w h cnt most rch tl nc M Y C T CN CG CS K) (hx : -2147483648 ≤ x ∧ x ≤ 2147483647) (hy : -2147483648 ≤ y ∧ y ≤ 2147483647) : zRd l yX5_isPoint cX5_isPoint 3 (some .boolean) { frames := 0, cells := 0, slots := 0, locals := 0 } G [.ref md, .int (zI (x)), .int (zI (y))] (mdL G md ma mb mc mt m1 m2 m3 m4 m5 m6 m7 th w h cnt most rch tl nc M Y C T CA CB CN CG CS Z K) (bI (decide (0 ≤ x) && decide (x < w) && decide (0 ≤ y) && decide (y < h))) := by
  refine Met.ofW (cc := cX5_isPoint) (maxL := 3) (ret := (some .boolean)) (by decide) rfl ?_
  intro p e s m args below meth c s₁ B hml hv
  obtain ⟨rfl, hP, hK⟩ := hv
  have hx := B.exec
  have hb := B.bytes
  have hr := B.returns
  have hT : ∀ w ∈ TB, w.before _ s = true := fun w h => atoms_spec (ws := Cond.code yX5_isPoint cX5_isPoint 3 (some .boolean) :: TB) B.pre w (List.mem_cons_of_mem _ h)
  have hown : s.vm.findClass RX5 = some m.cls := findClass_of_methodNamed B.named
  have hlocks := B.notSynchronized
  have hl := lv_entry ([.ref md, .int (zI (x)), .int (zI (y))]) (n := 3) (Nat.le_of_ble_eq_true rfl)
  rw [lg_entry_eq]
  generalize (lg_sl ([.ref md, .int (zI (x)), .int (zI (y))]) ++ List.replicate (3 - (lg_sl ([.ref md, .int (zI (x)), .int (zI (y))])).length) Slot.unset).toArray = ls at hl ⊢
  have hl : lv_has ls 3 [(0, .ref md), (1, .int (zI (x))), (2, .int (zI (y)))] := hl
  obtain ⟨hw, hh, hcnt, hmost, hrch, hM, hY, hC, hTb, hT0, hT5, htl, hnc, hcl, hKb⟩ := id hm
  have hpt := md_pts hm
  have hPb : ∀ j, 0 ≤ PPf Y w (w * h) j ∧ PPf Y w (w * h) j ≤ 255 := fun j => hY _
  refine lv_iload_n hx hb dX5_isPoint_0 rfl (lv_at hl 1 rfl) ?_
  refine z_if_lt (tgt := 28) hx hb dX5_isPoint_1 (by decide) (by omega) (fun h1 => ?_) (fun h1 => ?_)
  · skip
    refine z_iconst hx hb dX5_isPoint_28 ?_
    exact z_zret hx hb hr hlocks (by first | exact Or.inl rfl | exact Or.inr rfl) (by refine bI_cases (fun h9 => ?_) (fun h9 => ?_) <;> first | rfl | (exfalso; simp only [Bool.and_eq_true, Bool.and_eq_false_iff, Bool.or_eq_true, Bool.or_eq_false_iff, decide_eq_true_eq, decide_eq_false_iff_not] at h9; omega)) dX5_isPoint_29
  · skip
    refine lv_iload_n hx hb dX5_isPoint_4 rfl (lv_at hl 1 rfl) ?_
    refine lv_aload_n hx hb dX5_isPoint_5 rfl (lv_at hl 0 rfl) ?_
    refine gf_X5_56 hx hb hT hown hK hP 0 rfl rfl dX5_isPoint_6 ?_
    refine z_icmp_ge (tgt := 28) hx hb dX5_isPoint_9 (by decide) (by omega) (by omega) (fun h9 => ?_) (fun h9 => ?_)
    · skip
      refine z_iconst hx hb dX5_isPoint_28 ?_
      exact z_zret hx hb hr hlocks (by first | exact Or.inl rfl | exact Or.inr rfl) (by refine bI_cases (fun h9 => ?_) (fun h9 => ?_) <;> first | rfl | (exfalso; simp only [Bool.and_eq_true, Bool.and_eq_false_iff, Bool.or_eq_true, Bool.or_eq_false_iff, decide_eq_true_eq, decide_eq_false_iff_not] at h9; omega)) dX5_isPoint_29
    · skip
      refine lv_iload_n hx hb dX5_isPoint_12 rfl (lv_at hl 2 rfl) ?_
      refine z_if_lt (tgt := 28) hx hb dX5_isPoint_13 (by decide) (by omega) (fun h13 => ?_) (fun h13 => ?_)
      · skip
        refine z_iconst hx hb dX5_isPoint_28 ?_
        exact z_zret hx hb hr hlocks (by first | exact Or.inl rfl | exact Or.inr rfl) (by refine bI_cases (fun h9 => ?_) (fun h9 => ?_) <;> first | rfl | (exfalso; simp only [Bool.and_eq_true, Bool.and_eq_false_iff, Bool.or_eq_true, Bool.or_eq_false_iff, decide_eq_true_eq, decide_eq_false_iff_not] at h9; omega)) dX5_isPoint_29
      · skip
        refine lv_iload_n hx hb dX5_isPoint_16 rfl (lv_at hl 2 rfl) ?_
        refine lv_aload_n hx hb dX5_isPoint_17 rfl (lv_at hl 0 rfl) ?_
        refine gf_X5_59 hx hb hT hown hK hP 0 rfl rfl dX5_isPoint_18 ?_
        refine z_icmp_ge (tgt := 28) hx hb dX5_isPoint_21 (by decide) (by omega) (by omega) (fun h21 => ?_) (fun h21 => ?_)
        · skip
          refine z_iconst hx hb dX5_isPoint_28 ?_
          exact z_zret hx hb hr hlocks (by first | exact Or.inl rfl | exact Or.inr rfl) (by refine bI_cases (fun h9 => ?_) (fun h9 => ?_) <;> first | rfl | (exfalso; simp only [Bool.and_eq_true, Bool.and_eq_false_iff, Bool.or_eq_true, Bool.or_eq_false_iff, decide_eq_true_eq, decide_eq_false_iff_not] at h9; omega)) dX5_isPoint_29
        · skip
          refine z_iconst hx hb dX5_isPoint_24 ?_
          refine z_goto (tgt := 29) hx hb dX5_isPoint_25 (by decide) ?_
          exact z_zret hx hb hr hlocks (by first | exact Or.inl rfl | exact Or.inr rfl) (by refine bI_cases (fun h9 => ?_) (fun h9 => ?_) <;> first | rfl | (exfalso; simp only [Bool.and_eq_true, Bool.and_eq_false_iff, Bool.or_eq_true, Bool.or_eq_false_iff, decide_eq_true_eq, decide_eq_false_iff_not] at h9; omega)) dX5_isPoint_29

set_option maxHeartbeats 4000000 in
set_option maxRecDepth 100000 in
theorem c_X5_byteAt (l : Launch) (G : zG) (md ma mb mc mt m1 m2 m3 m4 m5 m6 m7 : Nat) (th w h cnt most rch tl nc : Int) (M Y C T CA CB CN CG CS Z K : Int → Int) (x y k : Int) (hm : mdOK w h cnt most rch tl nc M Y C T CN CG CS K) (hxx : 0 ≤ x ∧ x < w) (hyy : 0 ≤ y ∧ y < h) (hk : 0 ≤ k ∧ k < 8) : zRd l yX5_byteAt cX5_byteAt 4 (some .int) { frames := 0, cells := 0, slots := 0, locals := 0 } G [.ref md, .int (zI (x)), .int (zI (y)), .int (zI (k))] (mdL G md ma mb mc mt m1 m2 m3 m4 m5 m6 m7 th w h cnt most rch tl nc M Y C T CA CB CN CG CS Z K) ((PPf Y w (w * h)) (k * (w * h) + (x + w * y))) := by
  refine Met.ofW (cc := cX5_byteAt) (maxL := 4) (ret := (some .int)) (by decide) rfl ?_
  intro p e s m args below meth c s₁ B hml hv
  obtain ⟨rfl, hP, hK⟩ := hv
  have hx := B.exec
  have hb := B.bytes
  have hr := B.returns
  have hT : ∀ w ∈ TB, w.before _ s = true := fun w h => atoms_spec (ws := Cond.code yX5_byteAt cX5_byteAt 4 (some .int) :: TB) B.pre w (List.mem_cons_of_mem _ h)
  have hown : s.vm.findClass RX5 = some m.cls := findClass_of_methodNamed B.named
  have hlocks := B.notSynchronized
  have hl := lv_entry ([.ref md, .int (zI (x)), .int (zI (y)), .int (zI (k))]) (n := 4) (Nat.le_of_ble_eq_true rfl)
  rw [lg_entry_eq]
  generalize (lg_sl ([.ref md, .int (zI (x)), .int (zI (y)), .int (zI (k))]) ++ List.replicate (4 - (lg_sl ([.ref md, .int (zI (x)), .int (zI (y)), .int (zI (k))])).length) Slot.unset).toArray = ls at hl ⊢
  have hl : lv_has ls 4 [(0, .ref md), (1, .int (zI (x))), (2, .int (zI (y))), (3, .int (zI (k)))] := hl
  obtain ⟨hw, hh, hcnt, hmost, hrch, hM, hY, hC, hTb, hT0, hT5, htl, hnc, hcl, hKb⟩ := id hm
  have hpt := md_pts hm
  have hPb : ∀ j, 0 ≤ PPf Y w (w * h) j ∧ PPf Y w (w * h) j ≤ 255 := fun j => hY _
  refine lv_aload_n hx hb dX5_byteAt_0 rfl (lv_at hl 0 rfl) ?_
  refine gf_X5_17 hx hb hT hown hK hP 0 rfl rfl dX5_byteAt_1 ?_
  refine z_bipush hx hb dX5_byteAt_4 (by decide +kernel) ?_
  refine z_bipush hx hb dX5_byteAt_6 (by decide +kernel) ?_
  refine lv_iload_n hx hb dX5_byteAt_8 rfl (lv_at hl 2 rfl) ?_
  refine z_imul hx hb dX5_byteAt_9 ?_
  refine lv_iload_n hx hb dX5_byteAt_10 rfl (lv_at hl 1 rfl) ?_
  refine z_iadd hx hb dX5_byteAt_11 ?_
  refine z_imul hx hb dX5_byteAt_12 ?_
  refine lv_iload_n hx hb dX5_byteAt_13 rfl (lv_at hl 3 rfl) ?_
  refine z_iadd hx hb dX5_byteAt_14 ?_
  refine z_iald hx hb hK hP 2 rfl (⟨by omega, by omega, by omega⟩) dX5_byteAt_15 ?_
  exact z_iret hx hb hr hlocks ((PP_at Y hxx (pt_b hxx hyy)).symm) dX5_byteAt_16

set_option maxHeartbeats 4000000 in
set_option maxRecDepth 100000 in
theorem c_X5_less (l : Launch) (G : zG) (a b : Int) (ha : -2147483648 ≤ a ∧ a ≤ 2147483647) (hb : -2147483648 ≤ b ∧ b ≤ 2147483647) : zRd l yX5_less cX5_less 2 (some .int) { frames := 0, cells := 0, slots := 0, locals := 0 } G [.int (zI (a)), .int (zI (b))] ([]) (min a b) := by
  refine Met.ofW (cc := cX5_less) (maxL := 2) (ret := (some .int)) (by decide) rfl ?_
  intro p e s m args below meth c s₁ B hml hv
  obtain ⟨rfl, hP, hK⟩ := hv
  have hx := B.exec
  have hb := B.bytes
  have hr := B.returns
  have hT : ∀ w ∈ TB, w.before _ s = true := fun w h => atoms_spec (ws := Cond.code yX5_less cX5_less 2 (some .int) :: TB) B.pre w (List.mem_cons_of_mem _ h)
  have hown : s.vm.findClass RX5 = some m.cls := findClass_of_methodNamed B.named
  have hlocks := B.notSynchronized
  have hl := lv_entry ([.int (zI (a)), .int (zI (b))]) (n := 2) (Nat.le_of_ble_eq_true rfl)
  rw [lg_entry_eq]
  generalize (lg_sl ([.int (zI (a)), .int (zI (b))]) ++ List.replicate (2 - (lg_sl ([.int (zI (a)), .int (zI (b))])).length) Slot.unset).toArray = ls at hl ⊢
  have hl : lv_has ls 2 [(0, .int (zI (a))), (1, .int (zI (b)))] := hl
  refine lv_iload_n hx hb dX5_less_0 rfl (lv_at hl 0 rfl) ?_
  refine lv_iload_n hx hb dX5_less_1 rfl (lv_at hl 1 rfl) ?_
  refine z_icmp_ge (tgt := 9) hx hb dX5_less_2 (by decide) (by omega) (by omega) (fun h2 => ?_) (fun h2 => ?_)
  · skip
    refine lv_iload_n hx hb dX5_less_9 rfl (lv_at hl 1 rfl) ?_
    exact z_iret hx hb hr hlocks (by omega) dX5_less_10
  · skip
    refine lv_iload_n hx hb dX5_less_5 rfl (lv_at hl 0 rfl) ?_
    refine z_goto (tgt := 10) hx hb dX5_less_6 (by decide) ?_
    exact z_iret hx hb hr hlocks (by omega) dX5_less_10

set_option maxHeartbeats 4000000 in
set_option maxRecDepth 100000 in
theorem c_X5_more (l : Launch) (G : zG) (a b : Int) (ha : -2147483648 ≤ a ∧ a ≤ 2147483647) (hb : -2147483648 ≤ b ∧ b ≤ 2147483647) : zRd l yX5_more cX5_more 2 (some .int) { frames := 0, cells := 0, slots := 0, locals := 0 } G [.int (zI (a)), .int (zI (b))] ([]) (max a b) := by
  refine Met.ofW (cc := cX5_more) (maxL := 2) (ret := (some .int)) (by decide) rfl ?_
  intro p e s m args below meth c s₁ B hml hv
  obtain ⟨rfl, hP, hK⟩ := hv
  have hx := B.exec
  have hb := B.bytes
  have hr := B.returns
  have hT : ∀ w ∈ TB, w.before _ s = true := fun w h => atoms_spec (ws := Cond.code yX5_more cX5_more 2 (some .int) :: TB) B.pre w (List.mem_cons_of_mem _ h)
  have hown : s.vm.findClass RX5 = some m.cls := findClass_of_methodNamed B.named
  have hlocks := B.notSynchronized
  have hl := lv_entry ([.int (zI (a)), .int (zI (b))]) (n := 2) (Nat.le_of_ble_eq_true rfl)
  rw [lg_entry_eq]
  generalize (lg_sl ([.int (zI (a)), .int (zI (b))]) ++ List.replicate (2 - (lg_sl ([.int (zI (a)), .int (zI (b))])).length) Slot.unset).toArray = ls at hl ⊢
  have hl : lv_has ls 2 [(0, .int (zI (a))), (1, .int (zI (b)))] := hl
  refine lv_iload_n hx hb dX5_more_0 rfl (lv_at hl 0 rfl) ?_
  refine lv_iload_n hx hb dX5_more_1 rfl (lv_at hl 1 rfl) ?_
  refine z_icmp_le (tgt := 9) hx hb dX5_more_2 (by decide) (by omega) (by omega) (fun h2 => ?_) (fun h2 => ?_)
  · skip
    refine lv_iload_n hx hb dX5_more_9 rfl (lv_at hl 1 rfl) ?_
    exact z_iret hx hb hr hlocks (by omega) dX5_more_10
  · skip
    refine lv_iload_n hx hb dX5_more_5 rfl (lv_at hl 0 rfl) ?_
    refine z_goto (tgt := 10) hx hb dX5_more_6 (by decide) ?_
    exact z_iret hx hb hr hlocks (by omega) dX5_more_10

set_option maxHeartbeats 4000000 in
set_option maxRecDepth 100000 in
theorem c_X5_sumAt (l : Launch) (G : zG) (md ma mb mc mt m1 m2 m3 m4 m5 m6 m7 : Nat) (th w h cnt most rch tl nc : Int) (M Y C T CA CB CN CG CS Z K : Int → Int) (q : Int) (hm : mdOK w h cnt most rch tl nc M Y C T CN CG CS K) (hq : 0 ≤ q ∧ q < 192) : zRd l yX5_sumAt cX5_sumAt 4 (some .int) { frames := 0, cells := 0, slots := 0, locals := 0 } G [.ref md, .int (zI (q))] (mdL G md ma mb mc mt m1 m2 m3 m4 m5 m6 m7 th w h cnt most rch tl nc M Y C T CA CB CN CG CS Z K) (zsum (fun j => Y (8 * q + j)) 8) := by
  refine Met.ofW (cc := cX5_sumAt) (maxL := 4) (ret := (some .int)) (by decide) rfl ?_
  intro p e s m args below meth c s₁ B hml hv
  obtain ⟨rfl, hP, hK⟩ := hv
  have hx := B.exec
  have hb := B.bytes
  have hr := B.returns
  have hT : ∀ w ∈ TB, w.before _ s = true := fun w h => atoms_spec (ws := Cond.code yX5_sumAt cX5_sumAt 4 (some .int) :: TB) B.pre w (List.mem_cons_of_mem _ h)
  have hown : s.vm.findClass RX5 = some m.cls := findClass_of_methodNamed B.named
  have hlocks := B.notSynchronized
  have hl := lv_entry ([.ref md, .int (zI (q))]) (n := 4) (Nat.le_of_ble_eq_true rfl)
  rw [lg_entry_eq]
  generalize (lg_sl ([.ref md, .int (zI (q))]) ++ List.replicate (4 - (lg_sl ([.ref md, .int (zI (q))])).length) Slot.unset).toArray = ls at hl ⊢
  have hl : lv_has ls 4 [(0, .ref md), (1, .int (zI (q)))] := hl
  obtain ⟨hw, hh, hcnt, hmost, hrch, hM, hY, hC, hTb, hT0, hT5, htl, hnc, hcl, hKb⟩ := id hm
  have hpt := md_pts hm
  have hPb : ∀ j, 0 ≤ PPf Y w (w * h) j ∧ PPf Y w (w * h) j ≤ 255 := fun j => hY _
  refine z_iconst hx hb dX5_sumAt_0 ?_
  refine lv_istore_n (lv' := [(2, .int (zI (0))), (0, .ref md), (1, .int (zI (q)))]) hx hb dX5_sumAt_1 rfl hl (by decide) rfl (fun ls hl => ?_)
  refine z_iconst hx hb dX5_sumAt_2 ?_
  refine lv_istore_n (lv' := [(3, .int (zI (0))), (2, .int (zI (0))), (0, .ref md), (1, .int (zI (q)))]) hx hb dX5_sumAt_3 rfl hl (by decide) rfl (fun ls hl => ?_)
  refine z_loop (σ := Int × Array Slot) (fun zq => F0 m 4 (zq.2) []) (fun zq => (0 ≤ zq.1 ∧ zq.1 ≤ 8) ∧ lv_has (zq.2) 4 [(0, .ref md), (1, .int (zI (q))), (2, .int (zI (zsum (fun j => Y (8 * q + j)) zq.1.toNat))), (3, .int (zI (zq.1)))]) (fun zq => (8 - zq.1).toNat) ?_ (0, ls) ⟨by refine ⟨?_, ?_⟩ <;> omega, lv_sub hl [2, 3, 1, 0] rfl⟩
  intro zq hq ih
  obtain ⟨k, ls⟩ := zq
  obtain ⟨hI, hl⟩ := hq
  try dsimp only at hI hl ih ⊢
  have ih4 := ih
  refine lv_iload_n hx hb dX5_sumAt_4 rfl (lv_at hl 3 rfl) ?_
  refine z_bipush hx hb dX5_sumAt_5 (by decide +kernel) ?_
  refine z_icmp_ge (tgt := 30) hx hb dX5_sumAt_7 (by decide) (by omega) (by omega) (fun h7 => ?_) (fun h7 => ?_)
  · skip
    refine lv_iload_n hx hb dX5_sumAt_30 rfl (lv_at hl 2 rfl) ?_
    exact z_iret hx hb hr hlocks (by have hkc : k = 8 := (by omega); rw [hkc]; rfl) dX5_sumAt_31
  · skip
    refine lv_iload_n hx hb dX5_sumAt_10 rfl (lv_at hl 2 rfl) ?_
    refine lv_aload_n hx hb dX5_sumAt_11 rfl (lv_at hl 0 rfl) ?_
    refine gf_X5_17 hx hb hT hown hK hP 0 rfl rfl dX5_sumAt_12 ?_
    refine z_bipush hx hb dX5_sumAt_15 (by decide +kernel) ?_
    refine lv_iload_n hx hb dX5_sumAt_17 rfl (lv_at hl 1 rfl) ?_
    refine z_imul hx hb dX5_sumAt_18 ?_
    refine lv_iload_n hx hb dX5_sumAt_19 rfl (lv_at hl 3 rfl) ?_
    refine z_iadd hx hb dX5_sumAt_20 ?_
    refine z_iald hx hb hK hP 2 rfl (⟨by omega, by omega, by omega⟩) dX5_sumAt_21 ?_
    refine z_iadd hx hb dX5_sumAt_22 ?_
    refine z_top (zsum (fun j => Y (8 * q + j)) (k + 1).toNat) ((zsum_s _ (by omega)).symm) ?_
    refine lv_istore_n (lv' := [(2, .int (zI (zsum (fun j => Y (8 * q + j)) (k + 1).toNat))), (0, .ref md), (1, .int (zI (q))), (3, .int (zI (k)))]) hx hb dX5_sumAt_23 rfl hl (by decide) rfl (fun ls hl => ?_)
    refine lv_iinc (v := zI (k + (1))) (lv' := [(3, .int (zI (k + (1)))), (2, .int (zI (zsum (fun j => Y (8 * q + j)) (k + 1).toNat))), (0, .ref md), (1, .int (zI (q)))]) hx hb dX5_sumAt_24 hl (k := 3) rfl (zI_add _ _) (by decide) rfl (fun ls hl => ?_)
    refine z_goto (tgt := 4) hx hb dX5_sumAt_27 (by decide) ?_
    exact ih4 (k + 1, ls) ⟨by refine ⟨?_, ?_⟩ <;> omega, lv_sub hl [2, 3, 1, 0] rfl⟩ (by omega)

set_option maxHeartbeats 4000000 in
set_option maxRecDepth 100000 in
theorem c_X5_inkOf (l : Launch) (G : zG) (md ma mb mc mt m1 m2 m3 m4 m5 m6 m7 : Nat) (th w h cnt most rch tl nc : Int) (M Y C T CA CB CN CG CS Z K : Int → Int) (x y k ln : Int) (hm : mdOK w h cnt most rch tl nc M Y C T CN CG CS K) (hxx : 0 ≤ x ∧ x < w) (hyy : 0 ≤ y ∧ y < h) (hk : 0 ≤ k ∧ k < 8) (hln : -1 ≤ ln ∧ ln < w * h) : zRd l yX5_inkOf cX5_inkOf 6 (some .int) { frames := 1, cells := 0, slots := 0, locals := 23 } G [.ref md, .int (zI (x)), .int (zI (y)), .int (zI (k)), .int (zI (ln))] (mdL G md ma mb mc mt m1 m2 m3 m4 m5 m6 m7 th w h cnt most rch tl nc M Y C T CA CB CN CG CS Z K) ((pW (PPf Y w (w * h)) (w * h) k (x + w * y) ln)) := by
  refine Met.ofW (cc := cX5_inkOf) (maxL := 6) (ret := (some .int)) (by decide) rfl ?_
  intro p e s m args below meth c s₁ B hml hv
  obtain ⟨rfl, hP, hK⟩ := hv
  have hx := B.exec
  have hb := B.bytes
  have hr := B.returns
  have hT : ∀ w ∈ TB, w.before _ s = true := fun w h => atoms_spec (ws := Cond.code yX5_inkOf cX5_inkOf 6 (some .int) :: TB) B.pre w (List.mem_cons_of_mem _ h)
  have hown : s.vm.findClass RX5 = some m.cls := findClass_of_methodNamed B.named
  have hlocks := B.notSynchronized
  have hl := lv_entry ([.ref md, .int (zI (x)), .int (zI (y)), .int (zI (k)), .int (zI (ln))]) (n := 6) (Nat.le_of_ble_eq_true rfl)
  rw [lg_entry_eq]
  generalize (lg_sl ([.ref md, .int (zI (x)), .int (zI (y)), .int (zI (k)), .int (zI (ln))]) ++ List.replicate (6 - (lg_sl ([.ref md, .int (zI (x)), .int (zI (y)), .int (zI (k)), .int (zI (ln))])).length) Slot.unset).toArray = ls at hl ⊢
  have hl : lv_has ls 6 [(0, .ref md), (1, .int (zI (x))), (2, .int (zI (y))), (3, .int (zI (k))), (4, .int (zI (ln)))] := hl
  obtain ⟨hw, hh, hcnt, hmost, hrch, hM, hY, hC, hTb, hT0, hT5, htl, hnc, hcl, hKb⟩ := id hm
  have hpt := md_pts hm
  have hPb : ∀ j, 0 ≤ PPf Y w (w * h) j ∧ PPf Y w (w * h) j ≤ 255 := fun j => hY _
  refine lv_aload_n hx hb dX5_inkOf_0 rfl (lv_at hl 0 rfl) ?_
  refine lv_iload_n hx hb dX5_inkOf_1 rfl (lv_at hl 1 rfl) ?_
  refine lv_iload_n hx hb dX5_inkOf_2 rfl (lv_at hl 2 rfl) ?_
  refine lv_iload_n hx hb dX5_inkOf_3 rfl (lv_at hl 3 rfl) ?_
  refine z_callV (q0 := 0) (G := G) (As := [.int (zI (x)), .int (zI (y)), .int (zI (k))]) (rest := []) hx hb hml hown hT hK (c_X5_byteAt l G md ma mb mc mt m1 m2 m3 m4 m5 m6 m7 th w h cnt most rch tl nc M Y C T CA CB CN CG CS Z K (x) (y) (k) hm (by omega) (by omega) (by omega)) kc_X5_87 ⟨Nat.le_of_ble_eq_true rfl, Nat.le_of_ble_eq_true rfl⟩ ⟨rfl, rfl⟩ ⟨Nat.zero_le _, Nat.zero_le _⟩ hP rfl rfl rfl rfl hl.1 rfl (Nat.le_of_ble_eq_true rfl) dX5_inkOf_4 ?_
  refine lv_istore (lv' := [(5, .int (zI (((PPf Y w (w * h)) (k * (w * h) + (x + w * y)))))), (0, .ref md), (1, .int (zI (x))), (2, .int (zI (y))), (3, .int (zI (k))), (4, .int (zI (ln)))]) hx hb dX5_inkOf_7 hl (by decide) rfl (fun ls hl => ?_)
  refine lv_iload hx hb dX5_inkOf_9 (lv_at hl 5 rfl) ?_
  refine z_iconst hx hb dX5_inkOf_11 ?_
  refine z_icmp_ne (tgt := 20) hx hb dX5_inkOf_12 (by decide) (by omega) (by omega) (fun h12 => ?_) (fun h12 => ?_)
  · skip
    have hqx := q_xy (w := w) (h := h) (q := ln) (by omega) (by omega)
    have hdm := Int.mul_ediv_add_emod ln w
    have hb1 := hPb (k * (w * h) + (x + w * y))
    have hb2 := hPb (k * (w * h) + (ln % w + w * (ln / w)))
    refine lv_iload hx hb dX5_inkOf_20 (lv_at hl 0 rfl) ?_
    refine lv_aload_n hx hb dX5_inkOf_22 rfl (lv_at hl 1 rfl) ?_
    refine lv_iload hx hb dX5_inkOf_23 (lv_at hl 5 rfl) ?_
    refine lv_aload_n hx hb dX5_inkOf_25 rfl (lv_at hl 1 rfl) ?_
    refine gf_X5_56 hx hb hT hown hK hP 0 rfl rfl dX5_inkOf_26 ?_
    refine z_irem hx hb dX5_inkOf_29 (by omega) (by omega) ?_
    refine lv_iload hx hb dX5_inkOf_30 (lv_at hl 5 rfl) ?_
    refine lv_aload_n hx hb dX5_inkOf_32 rfl (lv_at hl 1 rfl) ?_
    refine gf_X5_56 hx hb hT hown hK hP 0 rfl rfl dX5_inkOf_33 ?_
    refine z_idiv hx hb dX5_inkOf_36 (by omega) (by omega) ?_
    refine lv_iload_n hx hb dX5_inkOf_37 rfl (lv_at hl 4 rfl) ?_
    refine z_callV (q0 := 0) (G := G) (As := [.int (zI ((ln % w))), .int (zI ((ln / w))), .int (zI (k))]) (rest := [.int (zI (((PPf Y w (w * h)) (k * (w * h) + (x + w * y)))))]) hx hb hml hown hT hK (c_X5_byteAt l G md ma mb mc mt m1 m2 m3 m4 m5 m6 m7 th w h cnt most rch tl nc M Y C T CA CB CN CG CS Z K ((ln % w)) ((ln / w)) (k) hm (by omega) (by omega) (by omega)) kc_X5_87 ⟨Nat.le_of_ble_eq_true rfl, Nat.le_of_ble_eq_true rfl⟩ ⟨rfl, rfl⟩ ⟨Nat.zero_le _, Nat.zero_le _⟩ hP rfl rfl rfl rfl hl.1 rfl (Nat.le_of_ble_eq_true rfl) dX5_inkOf_38 ?_
    refine z_callS (G := G) (As := [.int (zI (((PPf Y w (w * h)) (k * (w * h) + (x + w * y))))), .int (zI (((PPf Y w (w * h)) (k * (w * h) + ((ln % w) + w * (ln / w))))))]) (rest := []) hx hb hml hown hT hK (c_X5_more l G (((PPf Y w (w * h)) (k * (w * h) + (x + w * y)))) (((PPf Y w (w * h)) (k * (w * h) + ((ln % w) + w * (ln / w))))) (by omega) (by omega)) kc_X5_80 ⟨Nat.le_of_ble_eq_true rfl, Nat.le_of_ble_eq_true rfl⟩ ⟨rfl, rfl⟩ ⟨Nat.zero_le _, Nat.zero_le _⟩ (hP.sub [] rfl) rfl hl.1 rfl (Nat.le_of_ble_eq_true rfl) dX5_inkOf_41 ?_
    exact z_iret hx hb hr hlocks (by unfold pW; split <;> first | rfl | omega | (rw [show ln % w + w * (ln / w) = ln by omega])) dX5_inkOf_44
  · skip
    refine lv_iload hx hb dX5_inkOf_15 (lv_at hl 0 rfl) ?_
    refine z_goto (tgt := 44) hx hb dX5_inkOf_17 (by decide) ?_
    exact z_iret hx hb hr hlocks (by unfold pW; split <;> first | rfl | omega | (rw [show ln % w + w * (ln / w) = ln by omega])) dX5_inkOf_44

set_option maxHeartbeats 4000000 in
set_option maxRecDepth 100000 in
theorem c_X5_bandOf (l : Launch) (G : zG) (md ma mb mc mt m1 m2 m3 m4 m5 m6 m7 : Nat) (th w h cnt most rch tl nc : Int) (M Y C T CA CB CN CG CS Z K : Int → Int) (x y b ln : Int) (hm : mdOK w h cnt most rch tl nc M Y C T CN CG CS K) (hxx : 0 ≤ x ∧ x < w) (hyy : 0 ≤ y ∧ y < h) (hb3 : 0 ≤ b ∧ b < 3) (hln : -1 ≤ ln ∧ ln < w * h) : zRd l yX5_bandOf cX5_bandOf 8 (some .int) { frames := 2, cells := 0, slots := 0, locals := 48 } G [.ref md, .int (zI (x)), .int (zI (y)), .int (zI (b)), .int (zI (ln))] (mdL G md ma mb mc mt m1 m2 m3 m4 m5 m6 m7 th w h cnt most rch tl nc M Y C T CA CB CN CG CS Z K) (bandV M (PPf Y w (w * h)) (w * h) cnt b (x + w * y) ln) := by
  refine Met.ofW (cc := cX5_bandOf) (maxL := 8) (ret := (some .int)) (by decide) rfl ?_
  intro p e s m args below meth c s₁ B hml hv
  obtain ⟨rfl, hP, hK⟩ := hv
  have hx := B.exec
  have hb := B.bytes
  have hr := B.returns
  have hT : ∀ w ∈ TB, w.before _ s = true := fun w h => atoms_spec (ws := Cond.code yX5_bandOf cX5_bandOf 8 (some .int) :: TB) B.pre w (List.mem_cons_of_mem _ h)
  have hown : s.vm.findClass RX5 = some m.cls := findClass_of_methodNamed B.named
  have hlocks := B.notSynchronized
  have hl := lv_entry ([.ref md, .int (zI (x)), .int (zI (y)), .int (zI (b)), .int (zI (ln))]) (n := 8) (Nat.le_of_ble_eq_true rfl)
  rw [lg_entry_eq]
  generalize (lg_sl ([.ref md, .int (zI (x)), .int (zI (y)), .int (zI (b)), .int (zI (ln))]) ++ List.replicate (8 - (lg_sl ([.ref md, .int (zI (x)), .int (zI (y)), .int (zI (b)), .int (zI (ln))])).length) Slot.unset).toArray = ls at hl ⊢
  have hl : lv_has ls 8 [(0, .ref md), (1, .int (zI (x))), (2, .int (zI (y))), (3, .int (zI (b))), (4, .int (zI (ln)))] := hl
  obtain ⟨hw, hh, hcnt, hmost, hrch, hM, hY, hC, hTb, hT0, hT5, htl, hnc, hcl, hKb⟩ := id hm
  have hpt := md_pts hm
  have hPb : ∀ j, 0 ≤ PPf Y w (w * h) j ∧ PPf Y w (w * h) j ≤ 255 := fun j => hY _
  refine z_sipush hx hb dX5_bandOf_0 (by decide +kernel) ?_
  refine lv_istore (lv' := [(5, .int (zI (255))), (0, .ref md), (1, .int (zI (x))), (2, .int (zI (y))), (3, .int (zI (b))), (4, .int (zI (ln)))]) hx hb dX5_bandOf_3 hl (by decide) rfl (fun ls hl => ?_)
  refine z_iconst hx hb dX5_bandOf_5 ?_
  refine lv_istore (lv' := [(6, .int (zI (0))), (5, .int (zI (255))), (0, .ref md), (1, .int (zI (x))), (2, .int (zI (y))), (3, .int (zI (b))), (4, .int (zI (ln)))]) hx hb dX5_bandOf_6 hl (by decide) rfl (fun ls hl => ?_)
  refine z_loop (σ := Int × Array Slot) (fun zq => F0 m 8 (zq.2) []) (fun zq => (0 ≤ zq.1 ∧ zq.1 ≤ cnt) ∧ lv_has (zq.2) 8 [(0, .ref md), (1, .int (zI (x))), (2, .int (zI (y))), (3, .int (zI (b))), (4, .int (zI (ln))), (5, .int (zI (bnd (fun j => pW (PPf Y w (w * h)) (w * h) j (x + w * y) ln) (fun j => stg M j b) zq.1.toNat))), (6, .int (zI (zq.1)))]) (fun zq => (cnt - zq.1).toNat) ?_ (0, ls) ⟨by refine ⟨?_, ?_⟩ <;> omega, lv_sub hl [2, 3, 4, 5, 6, 1, 0] rfl⟩
  intro zq hq ih
  obtain ⟨k, ls⟩ := zq
  obtain ⟨hI, hl⟩ := hq
  try dsimp only at hI hl ih ⊢
  have ih8 := ih
  refine lv_iload hx hb dX5_bandOf_8 (lv_at hl 6 rfl) ?_
  refine lv_aload_n hx hb dX5_bandOf_10 rfl (lv_at hl 0 rfl) ?_
  refine gf_X5_7 hx hb hT hown hK hP 0 rfl rfl dX5_bandOf_11 ?_
  refine z_icmp_ge (tgt := 82) hx hb dX5_bandOf_14 (by decide) (by omega) (by omega) (fun h14 => ?_) (fun h14 => ?_)
  · skip
    refine lv_iload hx hb dX5_bandOf_82 (lv_at hl 5 rfl) ?_
    exact z_iret hx hb hr hlocks (by have hkc : k = cnt := (by omega); subst hkc; rfl) dX5_bandOf_84
  · skip
    have hf1 : 0 ≤ bnd (fun j => pW (PPf Y w (w * h)) (w * h) j (x + w * y) ln) (fun j => stg M j b) k.toNat ∧ bnd (fun j => pW (PPf Y w (w * h)) (w * h) j (x + w * y) ln) (fun j => stg M j b) k.toNat ≤ 255 := bnd_b (fun j => pW_b hPb _ _ _ _) (fun j => stg_b hM _ _) _
    have hf2 := pW_b hPb (w * h) k (x + w * y) ln
    have hf3 := stg_b hM k b
    have hf4 := bnd_step hf1 hf2 hf3
    have hm1 := hM (4 * k + b)
    have hm2 := hM (4 * k + 3)
    refine lv_aload_n hx hb dX5_bandOf_17 rfl (lv_at hl 0 rfl) ?_
    refine gf_X5_13 hx hb hT hown hK hP 0 rfl rfl dX5_bandOf_18 ?_
    refine z_iconst hx hb dX5_bandOf_21 ?_
    refine lv_iload hx hb dX5_bandOf_22 (lv_at hl 6 rfl) ?_
    refine z_imul hx hb dX5_bandOf_24 ?_
    refine lv_iload_n hx hb dX5_bandOf_25 rfl (lv_at hl 3 rfl) ?_
    refine z_iadd hx hb dX5_bandOf_26 ?_
    refine z_iald hx hb hK hP 1 rfl (⟨by omega, by omega, by omega⟩) dX5_bandOf_27 ?_
    refine lv_aload_n hx hb dX5_bandOf_28 rfl (lv_at hl 0 rfl) ?_
    refine gf_X5_13 hx hb hT hown hK hP 0 rfl rfl dX5_bandOf_29 ?_
    refine z_iconst hx hb dX5_bandOf_32 ?_
    refine lv_iload hx hb dX5_bandOf_33 (lv_at hl 6 rfl) ?_
    refine z_imul hx hb dX5_bandOf_35 ?_
    refine z_iconst hx hb dX5_bandOf_36 ?_
    refine z_iadd hx hb dX5_bandOf_37 ?_
    refine z_iald hx hb hK hP 1 rfl (⟨by omega, by omega, by omega⟩) dX5_bandOf_38 ?_
    refine z_iadd hx hb dX5_bandOf_39 ?_
    refine z_sipush hx hb dX5_bandOf_40 (by decide +kernel) ?_
    refine z_callS (G := G) (As := [.int (zI (((M ((4 * k) + b)) + (M ((4 * k) + 3))))), .int (zI (255))]) (rest := []) hx hb hml hown hT hK (c_X5_less l G (((M ((4 * k) + b)) + (M ((4 * k) + 3)))) (255) (by omega) (by omega)) kc_X5_76 ⟨Nat.le_of_ble_eq_true rfl, Nat.le_of_ble_eq_true rfl⟩ ⟨rfl, rfl⟩ ⟨Nat.zero_le _, Nat.zero_le _⟩ (hP.sub [] rfl) rfl hl.1 rfl (Nat.le_of_ble_eq_true rfl) dX5_bandOf_43 ?_
    refine z_top (stg M k b) (by unfold stg; rw [show 4 * k + b = k * 4 + b by omega, show 4 * k + 3 = k * 4 + 3 by omega]; omega) ?_
    refine lv_istore (lv' := [(7, .int (zI (stg M k b))), (0, .ref md), (1, .int (zI (x))), (2, .int (zI (y))), (3, .int (zI (b))), (4, .int (zI (ln))), (5, .int (zI (bnd (fun j => pW (PPf Y w (w * h)) (w * h) j (x + w * y) ln) (fun j => stg M j b) k.toNat))), (6, .int (zI (k)))]) hx hb dX5_bandOf_46 hl (by decide) rfl (fun ls hl => ?_)
    refine lv_iload hx hb dX5_bandOf_48 (lv_at hl 6 rfl) ?_
    refine lv_ldc (v := zI (65025)) hx hb hown (hT _ (mT 673 (by decide +kernel) rfl)) dX5_bandOf_50 ?_
    refine lv_aload_n hx hb dX5_bandOf_52 rfl (lv_at hl 1 rfl) ?_
    refine lv_iload_n hx hb dX5_bandOf_53 rfl (lv_at hl 2 rfl) ?_
    refine lv_iload_n hx hb dX5_bandOf_54 rfl (lv_at hl 3 rfl) ?_
    refine lv_iload hx hb dX5_bandOf_55 (lv_at hl 7 rfl) ?_
    refine lv_iload hx hb dX5_bandOf_57 (lv_at hl 5 rfl) ?_
    refine z_callV (q0 := 0) (G := G) (As := [.int (zI (x)), .int (zI (y)), .int (zI (k)), .int (zI (ln))]) (rest := [.int (zI ((65025))), .int (zI (bnd (fun j => pW (PPf Y w (w * h)) (w * h) j (x + w * y) ln) (fun j => stg M j b) k.toNat))]) hx hb hml hown hT hK (c_X5_inkOf l G md ma mb mc mt m1 m2 m3 m4 m5 m6 m7 th w h cnt most rch tl nc M Y C T CA CB CN CG CS Z K (x) (y) (k) (ln) hm (by omega) (by omega) (by omega) (by omega)) kc_X5_92 ⟨Nat.le_of_ble_eq_true rfl, Nat.le_of_ble_eq_true rfl⟩ ⟨rfl, rfl⟩ ⟨Nat.zero_le _, Nat.zero_le _⟩ hP rfl rfl rfl rfl hl.1 rfl (Nat.le_of_ble_eq_true rfl) dX5_bandOf_59 ?_
    refine lv_iload hx hb dX5_bandOf_62 (lv_at hl 0 rfl) ?_
    refine z_imul hx hb dX5_bandOf_64 ?_
    refine z_isub hx hb dX5_bandOf_65 ?_
    refine z_imul hx hb dX5_bandOf_66 ?_
    refine z_sipush hx hb dX5_bandOf_67 (by decide +kernel) ?_
    refine z_iadd hx hb dX5_bandOf_70 ?_
    refine lv_ldc (v := zI (65025)) hx hb hown (hT _ (mT 673 (by decide +kernel) rfl)) dX5_bandOf_71 ?_
    refine z_idiv hx hb dX5_bandOf_73 (by omega) (by omega) ?_
    refine z_top (bnd (fun j => pW (PPf Y w (w * h)) (w * h) j (x + w * y) ln) (fun j => stg M j b) (k + 1).toNat) ((bnd_s _ _ (by omega)).symm) ?_
    refine lv_istore (lv' := [(5, .int (zI (bnd (fun j => pW (PPf Y w (w * h)) (w * h) j (x + w * y) ln) (fun j => stg M j b) (k + 1).toNat))), (7, .int (zI (stg M k b))), (0, .ref md), (1, .int (zI (x))), (2, .int (zI (y))), (3, .int (zI (b))), (4, .int (zI (ln))), (6, .int (zI (k)))]) hx hb dX5_bandOf_74 hl (by decide) rfl (fun ls hl => ?_)
    refine lv_iinc (v := zI (k + (1))) (lv' := [(6, .int (zI (k + (1)))), (5, .int (zI (bnd (fun j => pW (PPf Y w (w * h)) (w * h) j (x + w * y) ln) (fun j => stg M j b) (k + 1).toNat))), (7, .int (zI (stg M k b))), (0, .ref md), (1, .int (zI (x))), (2, .int (zI (y))), (3, .int (zI (b))), (4, .int (zI (ln)))]) hx hb dX5_bandOf_76 hl (k := 7) rfl (zI_add _ _) (by decide) rfl (fun ls hl => ?_)
    refine z_goto (tgt := 8) hx hb dX5_bandOf_79 (by decide) ?_
    exact ih8 (k + 1, ls) ⟨by refine ⟨?_, ?_⟩ <;> omega, lv_sub hl [3, 4, 5, 6, 7, 1, 0] rfl⟩ (by omega)

set_option maxHeartbeats 4000000 in
set_option maxRecDepth 100000 in
theorem c_X5_lightness (l : Launch) (G : zG) (md ma mb mc mt m1 m2 m3 m4 m5 m6 m7 : Nat) (th w h cnt most rch tl nc : Int) (M Y C T CA CB CN CG CS Z K : Int → Int) (x y : Int) (hm : mdOK w h cnt most rch tl nc M Y C T CN CG CS K) (hxx : 0 ≤ x ∧ x < w) (hyy : 0 ≤ y ∧ y < h) : zRd l yX5_lightness cX5_lightness 3 (some .int) { frames := 3, cells := 0, slots := 0, locals := 75 } G [.ref md, .int (zI (x)), .int (zI (y))] (mdL G md ma mb mc mt m1 m2 m3 m4 m5 m6 m7 th w h cnt most rch tl nc M Y C T CA CB CN CG CS Z K) (lightV M (PPf Y w (w * h)) (w * h) cnt (x + w * y)) := by
  refine Met.ofW (cc := cX5_lightness) (maxL := 3) (ret := (some .int)) (by decide) rfl ?_
  intro p e s m args below meth c s₁ B hml hv
  obtain ⟨rfl, hP, hK⟩ := hv
  have hx := B.exec
  have hb := B.bytes
  have hr := B.returns
  have hT : ∀ w ∈ TB, w.before _ s = true := fun w h => atoms_spec (ws := Cond.code yX5_lightness cX5_lightness 3 (some .int) :: TB) B.pre w (List.mem_cons_of_mem _ h)
  have hown : s.vm.findClass RX5 = some m.cls := findClass_of_methodNamed B.named
  have hlocks := B.notSynchronized
  have hl := lv_entry ([.ref md, .int (zI (x)), .int (zI (y))]) (n := 3) (Nat.le_of_ble_eq_true rfl)
  rw [lg_entry_eq]
  generalize (lg_sl ([.ref md, .int (zI (x)), .int (zI (y))]) ++ List.replicate (3 - (lg_sl ([.ref md, .int (zI (x)), .int (zI (y))])).length) Slot.unset).toArray = ls at hl ⊢
  have hl : lv_has ls 3 [(0, .ref md), (1, .int (zI (x))), (2, .int (zI (y)))] := hl
  obtain ⟨hw, hh, hcnt, hmost, hrch, hM, hY, hC, hTb, hT0, hT5, htl, hnc, hcl, hKb⟩ := id hm
  have hpt := md_pts hm
  have hPb : ∀ j, 0 ≤ PPf Y w (w * h) j ∧ PPf Y w (w * h) j ≤ 255 := fun j => hY _
  have hb0 := bandV_b hM hPb (w * h) cnt 0 (x + w * y) (-1)
  have hb1 := bandV_b hM hPb (w * h) cnt 1 (x + w * y) (-1)
  have hb2 := bandV_b hM hPb (w * h) cnt 2 (x + w * y) (-1)
  refine z_bipush hx hb dX5_lightness_0 (by decide +kernel) ?_
  refine lv_aload_n hx hb dX5_lightness_2 rfl (lv_at hl 0 rfl) ?_
  refine lv_iload_n hx hb dX5_lightness_3 rfl (lv_at hl 1 rfl) ?_
  refine lv_iload_n hx hb dX5_lightness_4 rfl (lv_at hl 2 rfl) ?_
  refine z_iconst hx hb dX5_lightness_5 ?_
  refine z_iconst hx hb dX5_lightness_6 ?_
  refine z_callV (q0 := 0) (G := G) (As := [.int (zI (x)), .int (zI (y)), .int (zI (0)), .int (zI ((-1)))]) (rest := [.int (zI (30))]) hx hb hml hown hT hK (c_X5_bandOf l G md ma mb mc mt m1 m2 m3 m4 m5 m6 m7 th w h cnt most rch tl nc M Y C T CA CB CN CG CS Z K (x) (y) (0) ((-1)) hm (by omega) (by omega) (by omega) (by omega)) kc_X5_96 ⟨Nat.le_of_ble_eq_true rfl, Nat.le_of_ble_eq_true rfl⟩ ⟨rfl, rfl⟩ ⟨Nat.zero_le _, Nat.zero_le _⟩ hP rfl rfl rfl rfl hl.1 rfl (Nat.le_of_ble_eq_true rfl) dX5_lightness_7 ?_
  refine z_imul hx hb dX5_lightness_10 ?_
  refine z_bipush hx hb dX5_lightness_11 (by decide +kernel) ?_
  refine lv_aload_n hx hb dX5_lightness_13 rfl (lv_at hl 0 rfl) ?_
  refine lv_iload_n hx hb dX5_lightness_14 rfl (lv_at hl 1 rfl) ?_
  refine lv_iload_n hx hb dX5_lightness_15 rfl (lv_at hl 2 rfl) ?_
  refine z_iconst hx hb dX5_lightness_16 ?_
  refine z_iconst hx hb dX5_lightness_17 ?_
  refine z_callV (q0 := 0) (G := G) (As := [.int (zI (x)), .int (zI (y)), .int (zI (1)), .int (zI ((-1)))]) (rest := [.int (zI (59)), .int (zI ((30 * (bandV M (PPf Y w (w * h)) (w * h) cnt 0 (x + w * y) (-1)))))]) hx hb hml hown hT hK (c_X5_bandOf l G md ma mb mc mt m1 m2 m3 m4 m5 m6 m7 th w h cnt most rch tl nc M Y C T CA CB CN CG CS Z K (x) (y) (1) ((-1)) hm (by omega) (by omega) (by omega) (by omega)) kc_X5_96 ⟨Nat.le_of_ble_eq_true rfl, Nat.le_of_ble_eq_true rfl⟩ ⟨rfl, rfl⟩ ⟨Nat.zero_le _, Nat.zero_le _⟩ hP rfl rfl rfl rfl hl.1 rfl (Nat.le_of_ble_eq_true rfl) dX5_lightness_18 ?_
  refine z_imul hx hb dX5_lightness_21 ?_
  refine z_iadd hx hb dX5_lightness_22 ?_
  refine z_bipush hx hb dX5_lightness_23 (by decide +kernel) ?_
  refine lv_aload_n hx hb dX5_lightness_25 rfl (lv_at hl 0 rfl) ?_
  refine lv_iload_n hx hb dX5_lightness_26 rfl (lv_at hl 1 rfl) ?_
  refine lv_iload_n hx hb dX5_lightness_27 rfl (lv_at hl 2 rfl) ?_
  refine z_iconst hx hb dX5_lightness_28 ?_
  refine z_iconst hx hb dX5_lightness_29 ?_
  refine z_callV (q0 := 0) (G := G) (As := [.int (zI (x)), .int (zI (y)), .int (zI (2)), .int (zI ((-1)))]) (rest := [.int (zI (11)), .int (zI (((30 * (bandV M (PPf Y w (w * h)) (w * h) cnt 0 (x + w * y) (-1))) + (59 * (bandV M (PPf Y w (w * h)) (w * h) cnt 1 (x + w * y) (-1))))))]) hx hb hml hown hT hK (c_X5_bandOf l G md ma mb mc mt m1 m2 m3 m4 m5 m6 m7 th w h cnt most rch tl nc M Y C T CA CB CN CG CS Z K (x) (y) (2) ((-1)) hm (by omega) (by omega) (by omega) (by omega)) kc_X5_96 ⟨Nat.le_of_ble_eq_true rfl, Nat.le_of_ble_eq_true rfl⟩ ⟨rfl, rfl⟩ ⟨Nat.zero_le _, Nat.zero_le _⟩ hP rfl rfl rfl rfl hl.1 rfl (Nat.le_of_ble_eq_true rfl) dX5_lightness_30 ?_
  refine z_imul hx hb dX5_lightness_33 ?_
  refine z_iadd hx hb dX5_lightness_34 ?_
  refine z_bipush hx hb dX5_lightness_35 (by decide +kernel) ?_
  refine z_idiv hx hb dX5_lightness_37 (by omega) (by omega) ?_
  exact z_iret hx hb hr hlocks (rfl) dX5_lightness_38

set_option maxHeartbeats 4000000 in
set_option maxRecDepth 100000 in
theorem c_X5_areUnlike (l : Launch) (G : zG) (md ma mb mc mt m1 m2 m3 m4 m5 m6 m7 : Nat) (th w h cnt most rch tl nc : Int) (M Y C T CA CB CN CG CS Z K : Int → Int) (x y u v : Int) (hm : mdOK w h cnt most rch tl nc M Y C T CN CG CS K) (hxx : 0 ≤ x ∧ x < w) (hyy : 0 ≤ y ∧ y < h) (huu : 0 ≤ u ∧ u < w) (hvv : 0 ≤ v ∧ v < h) : zRd l yX5_areUnlike cX5_areUnlike 11 (some .boolean) { frames := 1, cells := 0, slots := 0, locals := 23 } G [.ref md, .int (zI (x)), .int (zI (y)), .int (zI (u)), .int (zI (v))] (mdL G md ma mb mc mt m1 m2 m3 m4 m5 m6 m7 th w h cnt most rch tl nc M Y C T CA CB CN CG CS Z K) (bI (unlB (PPf Y w (w * h)) (w * h) cnt (x + w * y) (u + w * v))) := by
  refine Met.ofW (cc := cX5_areUnlike) (maxL := 11) (ret := (some .boolean)) (by decide) rfl ?_
  intro p e s m args below meth c s₁ B hml hv
  obtain ⟨rfl, hP, hK⟩ := hv
  have hx := B.exec
  have hb := B.bytes
  have hr := B.returns
  have hT : ∀ w ∈ TB, w.before _ s = true := fun w h => atoms_spec (ws := Cond.code yX5_areUnlike cX5_areUnlike 11 (some .boolean) :: TB) B.pre w (List.mem_cons_of_mem _ h)
  have hown : s.vm.findClass RX5 = some m.cls := findClass_of_methodNamed B.named
  have hlocks := B.notSynchronized
  have hl := lv_entry ([.ref md, .int (zI (x)), .int (zI (y)), .int (zI (u)), .int (zI (v))]) (n := 11) (Nat.le_of_ble_eq_true rfl)
  rw [lg_entry_eq]
  generalize (lg_sl ([.ref md, .int (zI (x)), .int (zI (y)), .int (zI (u)), .int (zI (v))]) ++ List.replicate (11 - (lg_sl ([.ref md, .int (zI (x)), .int (zI (y)), .int (zI (u)), .int (zI (v))])).length) Slot.unset).toArray = ls at hl ⊢
  have hl : lv_has ls 11 [(0, .ref md), (1, .int (zI (x))), (2, .int (zI (y))), (3, .int (zI (u))), (4, .int (zI (v)))] := hl
  obtain ⟨hw, hh, hcnt, hmost, hrch, hM, hY, hC, hTb, hT0, hT5, htl, hnc, hcl, hKb⟩ := id hm
  have hpt := md_pts hm
  have hPb : ∀ j, 0 ≤ PPf Y w (w * h) j ∧ PPf Y w (w * h) j ≤ 255 := fun j => hY _
  refine z_iconst hx hb dX5_areUnlike_0 ?_
  refine lv_istore (lv' := [(5, .int (zI (0))), (0, .ref md), (1, .int (zI (x))), (2, .int (zI (y))), (3, .int (zI (u))), (4, .int (zI (v)))]) hx hb dX5_areUnlike_1 hl (by decide) rfl (fun ls hl => ?_)
  refine z_iconst hx hb dX5_areUnlike_3 ?_
  refine lv_istore (lv' := [(6, .int (zI (0))), (5, .int (zI (0))), (0, .ref md), (1, .int (zI (x))), (2, .int (zI (y))), (3, .int (zI (u))), (4, .int (zI (v)))]) hx hb dX5_areUnlike_4 hl (by decide) rfl (fun ls hl => ?_)
  refine z_iconst hx hb dX5_areUnlike_6 ?_
  refine lv_istore (lv' := [(7, .int (zI (0))), (6, .int (zI (0))), (5, .int (zI (0))), (0, .ref md), (1, .int (zI (x))), (2, .int (zI (y))), (3, .int (zI (u))), (4, .int (zI (v)))]) hx hb dX5_areUnlike_7 hl (by decide) rfl (fun ls hl => ?_)
  refine z_iconst hx hb dX5_areUnlike_9 ?_
  refine lv_istore (lv' := [(8, .int (zI (0))), (7, .int (zI (0))), (6, .int (zI (0))), (5, .int (zI (0))), (0, .ref md), (1, .int (zI (x))), (2, .int (zI (y))), (3, .int (zI (u))), (4, .int (zI (v)))]) hx hb dX5_areUnlike_10 hl (by decide) rfl (fun ls hl => ?_)
  refine z_loop (σ := Int × Array Slot) (fun zq => F0 m 12 (zq.2) []) (fun zq => (0 ≤ zq.1 ∧ zq.1 ≤ cnt) ∧ lv_has (zq.2) 11 [(0, .ref md), (1, .int (zI (x))), (2, .int (zI (y))), (3, .int (zI (u))), (4, .int (zI (v))), (5, .int (zI (bI (anyB (fun j => mk25 (PPf Y w (w * h)) (w * h) (x + w * y) j && mk25 (PPf Y w (w * h)) (w * h) (u + w * v) j) zq.1.toNat)))), (6, .int (zI (bI (anyB (mk25 (PPf Y w (w * h)) (w * h) (x + w * y)) zq.1.toNat)))), (7, .int (zI (bI (anyB (mk25 (PPf Y w (w * h)) (w * h) (u + w * v)) zq.1.toNat)))), (8, .int (zI (zq.1)))]) (fun zq => (cnt - zq.1).toNat) ?_ (0, ls) ⟨by refine ⟨?_, ?_⟩ <;> omega, lv_sub hl [4, 5, 6, 7, 8, 3, 2, 1, 0] rfl⟩
  intro zq hq ih
  obtain ⟨k, ls⟩ := zq
  obtain ⟨hI, hl⟩ := hq
  try dsimp only at hI hl ih ⊢
  have ih12 := ih
  refine lv_iload hx hb dX5_areUnlike_12 (lv_at hl 8 rfl) ?_
  refine lv_aload_n hx hb dX5_areUnlike_14 rfl (lv_at hl 0 rfl) ?_
  refine gf_X5_7 hx hb hT hown hK hP 0 rfl rfl dX5_areUnlike_15 ?_
  refine z_icmp_ge (tgt := 124) hx hb dX5_areUnlike_18 (by decide) (by omega) (by omega) (fun h18 => ?_) (fun h18 => ?_)
  · skip
    have hkc : k = cnt := by omega
    subst hkc
    have h93 := bI_01 (anyB (fun j => mk25 (PPf Y w (w * h)) (w * h) (x + w * y) j && mk25 (PPf Y w (w * h)) (w * h) (u + w * v) j) k.toNat)
    have h94 := bI_01 (anyB (mk25 (PPf Y w (w * h)) (w * h) (x + w * y)) k.toNat)
    have h95 := bI_01 (anyB (mk25 (PPf Y w (w * h)) (w * h) (u + w * v)) k.toNat)
    refine lv_iload hx hb dX5_areUnlike_124 (lv_at hl 5 rfl) ?_
    refine z_if_ne (tgt := 143) hx hb dX5_areUnlike_126 (by decide) (by omega) (fun h126 => ?_) (fun h126 => ?_)
    · skip
      refine z_iconst hx hb dX5_areUnlike_143 ?_
      exact z_zret hx hb hr hlocks (by omega) (by unfold unlB; cases hC9 : anyB (fun j => mk25 (PPf Y w (w * h)) (w * h) (x + w * y) j && mk25 (PPf Y w (w * h)) (w * h) (u + w * v) j) k.toNat <;> cases hA9 : anyB (mk25 (PPf Y w (w * h)) (w * h) (x + w * y)) k.toNat <;> cases hB9 : anyB (mk25 (PPf Y w (w * h)) (w * h) (u + w * v)) k.toNat <;> simp_all [bI]) dX5_areUnlike_144
    · skip
      refine lv_iload hx hb dX5_areUnlike_129 (lv_at hl 6 rfl) ?_
      refine z_if_eq (tgt := 143) hx hb dX5_areUnlike_131 (by decide) (by omega) (fun h131 => ?_) (fun h131 => ?_)
      · skip
        refine z_iconst hx hb dX5_areUnlike_143 ?_
        exact z_zret hx hb hr hlocks (by omega) (by unfold unlB; cases hC9 : anyB (fun j => mk25 (PPf Y w (w * h)) (w * h) (x + w * y) j && mk25 (PPf Y w (w * h)) (w * h) (u + w * v) j) k.toNat <;> cases hA9 : anyB (mk25 (PPf Y w (w * h)) (w * h) (x + w * y)) k.toNat <;> cases hB9 : anyB (mk25 (PPf Y w (w * h)) (w * h) (u + w * v)) k.toNat <;> simp_all [bI]) dX5_areUnlike_144
      · skip
        refine lv_iload hx hb dX5_areUnlike_134 (lv_at hl 7 rfl) ?_
        refine z_if_eq (tgt := 143) hx hb dX5_areUnlike_136 (by decide) (by omega) (fun h136 => ?_) (fun h136 => ?_)
        · skip
          refine z_iconst hx hb dX5_areUnlike_143 ?_
          exact z_zret hx hb hr hlocks (by omega) (by unfold unlB; cases hC9 : anyB (fun j => mk25 (PPf Y w (w * h)) (w * h) (x + w * y) j && mk25 (PPf Y w (w * h)) (w * h) (u + w * v) j) k.toNat <;> cases hA9 : anyB (mk25 (PPf Y w (w * h)) (w * h) (x + w * y)) k.toNat <;> cases hB9 : anyB (mk25 (PPf Y w (w * h)) (w * h) (u + w * v)) k.toNat <;> simp_all [bI]) dX5_areUnlike_144
        · skip
          refine z_iconst hx hb dX5_areUnlike_139 ?_
          refine z_goto (tgt := 144) hx hb dX5_areUnlike_140 (by decide) ?_
          exact z_zret hx hb hr hlocks (by omega) (by unfold unlB; cases hC9 : anyB (fun j => mk25 (PPf Y w (w * h)) (w * h) (x + w * y) j && mk25 (PPf Y w (w * h)) (w * h) (u + w * v) j) k.toNat <;> cases hA9 : anyB (mk25 (PPf Y w (w * h)) (w * h) (x + w * y)) k.toNat <;> cases hB9 : anyB (mk25 (PPf Y w (w * h)) (w * h) (u + w * v)) k.toNat <;> simp_all [bI]) dX5_areUnlike_144
  · skip
    have hb1 := hPb (k * (w * h) + (x + w * y))
    have hb2 := hPb (k * (w * h) + (u + w * v))
    refine z_cut (σ := Array Slot) (fun zq => F0 m 39 (zq) [.int (zI (bI (mk25 (PPf Y w (w * h)) (w * h) (x + w * y) k)))]) (fun zq => (True) ∧ lv_has (zq) 11 [(0, .ref md), (1, .int (zI (x))), (2, .int (zI (y))), (3, .int (zI (u))), (4, .int (zI (v))), (5, .int (zI (bI (anyB (fun j => mk25 (PPf Y w (w * h)) (w * h) (x + w * y) j && mk25 (PPf Y w (w * h)) (w * h) (u + w * v) j) k.toNat)))), (6, .int (zI (bI (anyB (mk25 (PPf Y w (w * h)) (w * h) (x + w * y)) k.toNat)))), (7, .int (zI (bI (anyB (mk25 (PPf Y w (w * h)) (w * h) (u + w * v)) k.toNat)))), (8, .int (zI (k)))]) ?_ ?_
    · intro ls hq
      obtain ⟨hJ, hl⟩ := hq
      try dsimp only at hJ hl ⊢
      refine lv_istore (lv' := [(9, .int (zI (bI (mk25 (PPf Y w (w * h)) (w * h) (x + w * y) k)))), (0, .ref md), (1, .int (zI (x))), (2, .int (zI (y))), (3, .int (zI (u))), (4, .int (zI (v))), (5, .int (zI (bI (anyB (fun j => mk25 (PPf Y w (w * h)) (w * h) (x + w * y) j && mk25 (PPf Y w (w * h)) (w * h) (u + w * v) j) k.toNat)))), (6, .int (zI (bI (anyB (mk25 (PPf Y w (w * h)) (w * h) (x + w * y)) k.toNat)))), (7, .int (zI (bI (anyB (mk25 (PPf Y w (w * h)) (w * h) (u + w * v)) k.toNat)))), (8, .int (zI (k)))]) hx hb dX5_areUnlike_39 hl (by decide) rfl (fun ls hl => ?_)
      refine z_cut (σ := Array Slot) (fun zq => F0 m 60 (zq) [.int (zI (bI (mk25 (PPf Y w (w * h)) (w * h) (u + w * v) k)))]) (fun zq => (True) ∧ lv_has (zq) 11 [(9, .int (zI (bI (mk25 (PPf Y w (w * h)) (w * h) (x + w * y) k)))), (0, .ref md), (1, .int (zI (x))), (2, .int (zI (y))), (3, .int (zI (u))), (4, .int (zI (v))), (5, .int (zI (bI (anyB (fun j => mk25 (PPf Y w (w * h)) (w * h) (x + w * y) j && mk25 (PPf Y w (w * h)) (w * h) (u + w * v) j) k.toNat)))), (6, .int (zI (bI (anyB (mk25 (PPf Y w (w * h)) (w * h) (x + w * y)) k.toNat)))), (7, .int (zI (bI (anyB (mk25 (PPf Y w (w * h)) (w * h) (u + w * v)) k.toNat)))), (8, .int (zI (k)))]) ?_ ?_
      · intro ls hq
        obtain ⟨hJ, hl⟩ := hq
        try dsimp only at hJ hl ⊢
        refine lv_istore (lv' := [(10, .int (zI (bI (mk25 (PPf Y w (w * h)) (w * h) (u + w * v) k)))), (9, .int (zI (bI (mk25 (PPf Y w (w * h)) (w * h) (x + w * y) k)))), (0, .ref md), (1, .int (zI (x))), (2, .int (zI (y))), (3, .int (zI (u))), (4, .int (zI (v))), (5, .int (zI (bI (anyB (fun j => mk25 (PPf Y w (w * h)) (w * h) (x + w * y) j && mk25 (PPf Y w (w * h)) (w * h) (u + w * v) j) k.toNat)))), (6, .int (zI (bI (anyB (mk25 (PPf Y w (w * h)) (w * h) (x + w * y)) k.toNat)))), (7, .int (zI (bI (anyB (mk25 (PPf Y w (w * h)) (w * h) (u + w * v)) k.toNat)))), (8, .int (zI (k)))]) hx hb dX5_areUnlike_60 hl (by decide) rfl (fun ls hl => ?_)
        have h91 := bI_01 (mk25 (PPf Y w (w * h)) (w * h) (x + w * y) k)
        have h92 := bI_01 (mk25 (PPf Y w (w * h)) (w * h) (u + w * v) k)
        have h93 := bI_01 (anyB (fun j => mk25 (PPf Y w (w * h)) (w * h) (x + w * y) j && mk25 (PPf Y w (w * h)) (w * h) (u + w * v) j) k.toNat)
        have h94 := bI_01 (anyB (mk25 (PPf Y w (w * h)) (w * h) (x + w * y)) k.toNat)
        have h95 := bI_01 (anyB (mk25 (PPf Y w (w * h)) (w * h) (u + w * v)) k.toNat)
        refine z_cut (σ := Array Slot) (fun zq => F0 m 82 (zq) [.int (zI (bI (anyB (fun j => mk25 (PPf Y w (w * h)) (w * h) (x + w * y) j && mk25 (PPf Y w (w * h)) (w * h) (u + w * v) j) (k + 1).toNat)))]) (fun zq => (True) ∧ lv_has (zq) 11 [(10, .int (zI (bI (mk25 (PPf Y w (w * h)) (w * h) (u + w * v) k)))), (9, .int (zI (bI (mk25 (PPf Y w (w * h)) (w * h) (x + w * y) k)))), (0, .ref md), (1, .int (zI (x))), (2, .int (zI (y))), (3, .int (zI (u))), (4, .int (zI (v))), (5, .int (zI (bI (anyB (fun j => mk25 (PPf Y w (w * h)) (w * h) (x + w * y) j && mk25 (PPf Y w (w * h)) (w * h) (u + w * v) j) k.toNat)))), (6, .int (zI (bI (anyB (mk25 (PPf Y w (w * h)) (w * h) (x + w * y)) k.toNat)))), (7, .int (zI (bI (anyB (mk25 (PPf Y w (w * h)) (w * h) (u + w * v)) k.toNat)))), (8, .int (zI (k)))]) ?_ ?_
        · intro ls hq
          obtain ⟨hJ, hl⟩ := hq
          try dsimp only at hJ hl ⊢
          refine lv_istore (lv' := [(5, .int (zI (bI (anyB (fun j => mk25 (PPf Y w (w * h)) (w * h) (x + w * y) j && mk25 (PPf Y w (w * h)) (w * h) (u + w * v) j) (k + 1).toNat)))), (10, .int (zI (bI (mk25 (PPf Y w (w * h)) (w * h) (u + w * v) k)))), (9, .int (zI (bI (mk25 (PPf Y w (w * h)) (w * h) (x + w * y) k)))), (0, .ref md), (1, .int (zI (x))), (2, .int (zI (y))), (3, .int (zI (u))), (4, .int (zI (v))), (6, .int (zI (bI (anyB (mk25 (PPf Y w (w * h)) (w * h) (x + w * y)) k.toNat)))), (7, .int (zI (bI (anyB (mk25 (PPf Y w (w * h)) (w * h) (u + w * v)) k.toNat)))), (8, .int (zI (k)))]) hx hb dX5_areUnlike_82 hl (by decide) rfl (fun ls hl => ?_)
          refine z_cut (σ := Array Slot) (fun zq => F0 m 99 (zq) [.int (zI (bI (anyB (mk25 (PPf Y w (w * h)) (w * h) (x + w * y)) (k + 1).toNat)))]) (fun zq => (True) ∧ lv_has (zq) 11 [(5, .int (zI (bI (anyB (fun j => mk25 (PPf Y w (w * h)) (w * h) (x + w * y) j && mk25 (PPf Y w (w * h)) (w * h) (u + w * v) j) (k + 1).toNat)))), (10, .int (zI (bI (mk25 (PPf Y w (w * h)) (w * h) (u + w * v) k)))), (9, .int (zI (bI (mk25 (PPf Y w (w * h)) (w * h) (x + w * y) k)))), (0, .ref md), (1, .int (zI (x))), (2, .int (zI (y))), (3, .int (zI (u))), (4, .int (zI (v))), (6, .int (zI (bI (anyB (mk25 (PPf Y w (w * h)) (w * h) (x + w * y)) k.toNat)))), (7, .int (zI (bI (anyB (mk25 (PPf Y w (w * h)) (w * h) (u + w * v)) k.toNat)))), (8, .int (zI (k)))]) ?_ ?_
          · intro ls hq
            obtain ⟨hJ, hl⟩ := hq
            try dsimp only at hJ hl ⊢
            refine lv_istore (lv' := [(6, .int (zI (bI (anyB (mk25 (PPf Y w (w * h)) (w * h) (x + w * y)) (k + 1).toNat)))), (5, .int (zI (bI (anyB (fun j => mk25 (PPf Y w (w * h)) (w * h) (x + w * y) j && mk25 (PPf Y w (w * h)) (w * h) (u + w * v) j) (k + 1).toNat)))), (10, .int (zI (bI (mk25 (PPf Y w (w * h)) (w * h) (u + w * v) k)))), (9, .int (zI (bI (mk25 (PPf Y w (w * h)) (w * h) (x + w * y) k)))), (0, .ref md), (1, .int (zI (x))), (2, .int (zI (y))), (3, .int (zI (u))), (4, .int (zI (v))), (7, .int (zI (bI (anyB (mk25 (PPf Y w (w * h)) (w * h) (u + w * v)) k.toNat)))), (8, .int (zI (k)))]) hx hb dX5_areUnlike_99 hl (by decide) rfl (fun ls hl => ?_)
            refine z_cut (σ := Array Slot) (fun zq => F0 m 116 (zq) [.int (zI (bI (anyB (mk25 (PPf Y w (w * h)) (w * h) (u + w * v)) (k + 1).toNat)))]) (fun zq => (True) ∧ lv_has (zq) 11 [(6, .int (zI (bI (anyB (mk25 (PPf Y w (w * h)) (w * h) (x + w * y)) (k + 1).toNat)))), (5, .int (zI (bI (anyB (fun j => mk25 (PPf Y w (w * h)) (w * h) (x + w * y) j && mk25 (PPf Y w (w * h)) (w * h) (u + w * v) j) (k + 1).toNat)))), (10, .int (zI (bI (mk25 (PPf Y w (w * h)) (w * h) (u + w * v) k)))), (9, .int (zI (bI (mk25 (PPf Y w (w * h)) (w * h) (x + w * y) k)))), (0, .ref md), (1, .int (zI (x))), (2, .int (zI (y))), (3, .int (zI (u))), (4, .int (zI (v))), (7, .int (zI (bI (anyB (mk25 (PPf Y w (w * h)) (w * h) (u + w * v)) k.toNat)))), (8, .int (zI (k)))]) ?_ ?_
            · intro ls hq
              obtain ⟨hJ, hl⟩ := hq
              try dsimp only at hJ hl ⊢
              refine lv_istore (lv' := [(7, .int (zI (bI (anyB (mk25 (PPf Y w (w * h)) (w * h) (u + w * v)) (k + 1).toNat)))), (6, .int (zI (bI (anyB (mk25 (PPf Y w (w * h)) (w * h) (x + w * y)) (k + 1).toNat)))), (5, .int (zI (bI (anyB (fun j => mk25 (PPf Y w (w * h)) (w * h) (x + w * y) j && mk25 (PPf Y w (w * h)) (w * h) (u + w * v) j) (k + 1).toNat)))), (10, .int (zI (bI (mk25 (PPf Y w (w * h)) (w * h) (u + w * v) k)))), (9, .int (zI (bI (mk25 (PPf Y w (w * h)) (w * h) (x + w * y) k)))), (0, .ref md), (1, .int (zI (x))), (2, .int (zI (y))), (3, .int (zI (u))), (4, .int (zI (v))), (8, .int (zI (k)))]) hx hb dX5_areUnlike_116 hl (by decide) rfl (fun ls hl => ?_)
              refine lv_iinc (v := zI (k + (1))) (lv' := [(8, .int (zI (k + (1)))), (7, .int (zI (bI (anyB (mk25 (PPf Y w (w * h)) (w * h) (u + w * v)) (k + 1).toNat)))), (6, .int (zI (bI (anyB (mk25 (PPf Y w (w * h)) (w * h) (x + w * y)) (k + 1).toNat)))), (5, .int (zI (bI (anyB (fun j => mk25 (PPf Y w (w * h)) (w * h) (x + w * y) j && mk25 (PPf Y w (w * h)) (w * h) (u + w * v) j) (k + 1).toNat)))), (10, .int (zI (bI (mk25 (PPf Y w (w * h)) (w * h) (u + w * v) k)))), (9, .int (zI (bI (mk25 (PPf Y w (w * h)) (w * h) (x + w * y) k)))), (0, .ref md), (1, .int (zI (x))), (2, .int (zI (y))), (3, .int (zI (u))), (4, .int (zI (v)))]) hx hb dX5_areUnlike_118 hl (k := 10) rfl (zI_add _ _) (by decide) rfl (fun ls hl => ?_)
              refine z_goto (tgt := 12) hx hb dX5_areUnlike_121 (by decide) ?_
              exact ih12 (k + 1, ls) ⟨by refine ⟨?_, ?_⟩ <;> omega, lv_sub hl [6, 7, 8, 9, 10, 3, 2, 1, 0] rfl⟩ (by omega)
            intro J116
            refine lv_iload hx hb dX5_areUnlike_101 (lv_at hl 9 rfl) ?_
            refine z_if_ne (tgt := 111) hx hb dX5_areUnlike_103 (by decide) (by omega) (fun h103 => ?_) (fun h103 => ?_)
            · skip
              refine z_iconst hx hb dX5_areUnlike_111 ?_
              refine z_goto (tgt := 116) hx hb dX5_areUnlike_112 (by decide) ?_
              refine z_top (bI (anyB (mk25 (PPf Y w (w * h)) (w * h) (u + w * v)) (k + 1).toNat)) (by rw [anyB_s _ (by omega)]; cases hA9 : anyB (mk25 (PPf Y w (w * h)) (w * h) (u + w * v)) k.toNat <;> cases hB9 : mk25 (PPf Y w (w * h)) (w * h) (u + w * v) k <;> simp_all [bI]) ?_
              exact J116 (ls) ⟨trivial, lv_sub hl [0, 1, 2, 3, 4, 5, 6, 7, 8, 9, 10] rfl⟩
            · skip
              refine lv_iload hx hb dX5_areUnlike_106 (lv_at hl 2 rfl) ?_
              refine z_if_eq (tgt := 115) hx hb dX5_areUnlike_108 (by decide) (by omega) (fun h108 => ?_) (fun h108 => ?_)
              · skip
                refine z_iconst hx hb dX5_areUnlike_115 ?_
                refine z_top (bI (anyB (mk25 (PPf Y w (w * h)) (w * h) (u + w * v)) (k + 1).toNat)) (by rw [anyB_s _ (by omega)]; cases hA9 : anyB (mk25 (PPf Y w (w * h)) (w * h) (u + w * v)) k.toNat <;> cases hB9 : mk25 (PPf Y w (w * h)) (w * h) (u + w * v) k <;> simp_all [bI]) ?_
                exact J116 (ls) ⟨trivial, lv_sub hl [0, 1, 2, 3, 4, 5, 6, 7, 8, 9, 10] rfl⟩
              · skip
                refine z_iconst hx hb dX5_areUnlike_111 ?_
                refine z_goto (tgt := 116) hx hb dX5_areUnlike_112 (by decide) ?_
                refine z_top (bI (anyB (mk25 (PPf Y w (w * h)) (w * h) (u + w * v)) (k + 1).toNat)) (by rw [anyB_s _ (by omega)]; cases hA9 : anyB (mk25 (PPf Y w (w * h)) (w * h) (u + w * v)) k.toNat <;> cases hB9 : mk25 (PPf Y w (w * h)) (w * h) (u + w * v) k <;> simp_all [bI]) ?_
                exact J116 (ls) ⟨trivial, lv_sub hl [0, 1, 2, 3, 4, 5, 6, 7, 8, 9, 10] rfl⟩
          intro J99
          refine lv_iload hx hb dX5_areUnlike_84 (lv_at hl 8 rfl) ?_
          refine z_if_ne (tgt := 94) hx hb dX5_areUnlike_86 (by decide) (by omega) (fun h86 => ?_) (fun h86 => ?_)
          · skip
            refine z_iconst hx hb dX5_areUnlike_94 ?_
            refine z_goto (tgt := 99) hx hb dX5_areUnlike_95 (by decide) ?_
            refine z_top (bI (anyB (mk25 (PPf Y w (w * h)) (w * h) (x + w * y)) (k + 1).toNat)) (by rw [anyB_s _ (by omega)]; cases hA9 : anyB (mk25 (PPf Y w (w * h)) (w * h) (x + w * y)) k.toNat <;> cases hB9 : mk25 (PPf Y w (w * h)) (w * h) (x + w * y) k <;> simp_all [bI]) ?_
            exact J99 (ls) ⟨trivial, lv_sub hl [0, 1, 2, 3, 4, 5, 6, 7, 8, 9, 10] rfl⟩
          · skip
            refine lv_iload hx hb dX5_areUnlike_89 (lv_at hl 2 rfl) ?_
            refine z_if_eq (tgt := 98) hx hb dX5_areUnlike_91 (by decide) (by omega) (fun h91 => ?_) (fun h91 => ?_)
            · skip
              refine z_iconst hx hb dX5_areUnlike_98 ?_
              refine z_top (bI (anyB (mk25 (PPf Y w (w * h)) (w * h) (x + w * y)) (k + 1).toNat)) (by rw [anyB_s _ (by omega)]; cases hA9 : anyB (mk25 (PPf Y w (w * h)) (w * h) (x + w * y)) k.toNat <;> cases hB9 : mk25 (PPf Y w (w * h)) (w * h) (x + w * y) k <;> simp_all [bI]) ?_
              exact J99 (ls) ⟨trivial, lv_sub hl [0, 1, 2, 3, 4, 5, 6, 7, 8, 9, 10] rfl⟩
            · skip
              refine z_iconst hx hb dX5_areUnlike_94 ?_
              refine z_goto (tgt := 99) hx hb dX5_areUnlike_95 (by decide) ?_
              refine z_top (bI (anyB (mk25 (PPf Y w (w * h)) (w * h) (x + w * y)) (k + 1).toNat)) (by rw [anyB_s _ (by omega)]; cases hA9 : anyB (mk25 (PPf Y w (w * h)) (w * h) (x + w * y)) k.toNat <;> cases hB9 : mk25 (PPf Y w (w * h)) (w * h) (x + w * y) k <;> simp_all [bI]) ?_
              exact J99 (ls) ⟨trivial, lv_sub hl [0, 1, 2, 3, 4, 5, 6, 7, 8, 9, 10] rfl⟩
        intro J82
        refine lv_iload hx hb dX5_areUnlike_62 (lv_at hl 7 rfl) ?_
        refine z_if_ne (tgt := 77) hx hb dX5_areUnlike_64 (by decide) (by omega) (fun h64 => ?_) (fun h64 => ?_)
        · skip
          refine z_iconst hx hb dX5_areUnlike_77 ?_
          refine z_goto (tgt := 82) hx hb dX5_areUnlike_78 (by decide) ?_
          refine z_top (bI (anyB (fun j => mk25 (PPf Y w (w * h)) (w * h) (x + w * y) j && mk25 (PPf Y w (w * h)) (w * h) (u + w * v) j) (k + 1).toNat)) (by rw [anyB_s _ (by omega)]; cases hA9 : anyB (fun j => mk25 (PPf Y w (w * h)) (w * h) (x + w * y) j && mk25 (PPf Y w (w * h)) (w * h) (u + w * v) j) k.toNat <;> cases hB9 : mk25 (PPf Y w (w * h)) (w * h) (x + w * y) k <;> cases hC9 : mk25 (PPf Y w (w * h)) (w * h) (u + w * v) k <;> simp_all [bI]) ?_
          exact J82 (ls) ⟨trivial, lv_sub hl [0, 1, 2, 3, 4, 5, 6, 7, 8, 9, 10] rfl⟩
        · skip
          refine lv_iload hx hb dX5_areUnlike_67 (lv_at hl 1 rfl) ?_
          refine z_if_eq (tgt := 81) hx hb dX5_areUnlike_69 (by decide) (by omega) (fun h69 => ?_) (fun h69 => ?_)
          · skip
            refine z_iconst hx hb dX5_areUnlike_81 ?_
            refine z_top (bI (anyB (fun j => mk25 (PPf Y w (w * h)) (w * h) (x + w * y) j && mk25 (PPf Y w (w * h)) (w * h) (u + w * v) j) (k + 1).toNat)) (by rw [anyB_s _ (by omega)]; cases hA9 : anyB (fun j => mk25 (PPf Y w (w * h)) (w * h) (x + w * y) j && mk25 (PPf Y w (w * h)) (w * h) (u + w * v) j) k.toNat <;> cases hB9 : mk25 (PPf Y w (w * h)) (w * h) (x + w * y) k <;> cases hC9 : mk25 (PPf Y w (w * h)) (w * h) (u + w * v) k <;> simp_all [bI]) ?_
            exact J82 (ls) ⟨trivial, lv_sub hl [0, 1, 2, 3, 4, 5, 6, 7, 8, 9, 10] rfl⟩
          · skip
            refine lv_iload hx hb dX5_areUnlike_72 (lv_at hl 0 rfl) ?_
            refine z_if_eq (tgt := 81) hx hb dX5_areUnlike_74 (by decide) (by omega) (fun h74 => ?_) (fun h74 => ?_)
            · skip
              refine z_iconst hx hb dX5_areUnlike_81 ?_
              refine z_top (bI (anyB (fun j => mk25 (PPf Y w (w * h)) (w * h) (x + w * y) j && mk25 (PPf Y w (w * h)) (w * h) (u + w * v) j) (k + 1).toNat)) (by rw [anyB_s _ (by omega)]; cases hA9 : anyB (fun j => mk25 (PPf Y w (w * h)) (w * h) (x + w * y) j && mk25 (PPf Y w (w * h)) (w * h) (u + w * v) j) k.toNat <;> cases hB9 : mk25 (PPf Y w (w * h)) (w * h) (x + w * y) k <;> cases hC9 : mk25 (PPf Y w (w * h)) (w * h) (u + w * v) k <;> simp_all [bI]) ?_
              exact J82 (ls) ⟨trivial, lv_sub hl [0, 1, 2, 3, 4, 5, 6, 7, 8, 9, 10] rfl⟩
            · skip
              refine z_iconst hx hb dX5_areUnlike_77 ?_
              refine z_goto (tgt := 82) hx hb dX5_areUnlike_78 (by decide) ?_
              refine z_top (bI (anyB (fun j => mk25 (PPf Y w (w * h)) (w * h) (x + w * y) j && mk25 (PPf Y w (w * h)) (w * h) (u + w * v) j) (k + 1).toNat)) (by rw [anyB_s _ (by omega)]; cases hA9 : anyB (fun j => mk25 (PPf Y w (w * h)) (w * h) (x + w * y) j && mk25 (PPf Y w (w * h)) (w * h) (u + w * v) j) k.toNat <;> cases hB9 : mk25 (PPf Y w (w * h)) (w * h) (x + w * y) k <;> cases hC9 : mk25 (PPf Y w (w * h)) (w * h) (u + w * v) k <;> simp_all [bI]) ?_
              exact J82 (ls) ⟨trivial, lv_sub hl [0, 1, 2, 3, 4, 5, 6, 7, 8, 9, 10] rfl⟩
      intro J60
      refine lv_aload_n hx hb dX5_areUnlike_41 rfl (lv_at hl 1 rfl) ?_
      refine lv_iload_n hx hb dX5_areUnlike_42 rfl (lv_at hl 4 rfl) ?_
      refine lv_iload hx hb dX5_areUnlike_43 (lv_at hl 5 rfl) ?_
      refine lv_iload hx hb dX5_areUnlike_45 (lv_at hl 9 rfl) ?_
      refine z_callV (q0 := 0) (G := G) (As := [.int (zI (u)), .int (zI (v)), .int (zI (k))]) (rest := []) hx hb hml hown hT hK (c_X5_byteAt l G md ma mb mc mt m1 m2 m3 m4 m5 m6 m7 th w h cnt most rch tl nc M Y C T CA CB CN CG CS Z K (u) (v) (k) hm (by omega) (by omega) (by omega)) kc_X5_87 ⟨Nat.le_of_ble_eq_true rfl, Nat.le_of_ble_eq_true rfl⟩ ⟨rfl, rfl⟩ ⟨Nat.zero_le _, Nat.zero_le _⟩ hP rfl rfl rfl rfl hl.1 rfl (Nat.le_of_ble_eq_true rfl) dX5_areUnlike_47 ?_
      refine z_bipush hx hb dX5_areUnlike_50 (by decide +kernel) ?_
      refine z_icmp_lt (tgt := 59) hx hb dX5_areUnlike_52 (by decide) (by omega) (by omega) (fun h52 => ?_) (fun h52 => ?_)
      · skip
        refine z_iconst hx hb dX5_areUnlike_59 ?_
        refine z_top (bI (mk25 (PPf Y w (w * h)) (w * h) (u + w * v) k)) (bI_0 (by omega)) ?_
        exact J60 (ls) ⟨trivial, lv_sub hl [0, 1, 2, 3, 4, 5, 6, 7, 8, 9] rfl⟩
      · skip
        refine z_iconst hx hb dX5_areUnlike_55 ?_
        refine z_goto (tgt := 60) hx hb dX5_areUnlike_56 (by decide) ?_
        refine z_top (bI (mk25 (PPf Y w (w * h)) (w * h) (u + w * v) k)) (bI_1 (by omega)) ?_
        exact J60 (ls) ⟨trivial, lv_sub hl [0, 1, 2, 3, 4, 5, 6, 7, 8, 9] rfl⟩
    intro J39
    refine lv_aload_n hx hb dX5_areUnlike_21 rfl (lv_at hl 0 rfl) ?_
    refine lv_iload_n hx hb dX5_areUnlike_22 rfl (lv_at hl 1 rfl) ?_
    refine lv_iload_n hx hb dX5_areUnlike_23 rfl (lv_at hl 2 rfl) ?_
    refine lv_iload hx hb dX5_areUnlike_24 (lv_at hl 8 rfl) ?_
    refine z_callV (q0 := 0) (G := G) (As := [.int (zI (x)), .int (zI (y)), .int (zI (k))]) (rest := []) hx hb hml hown hT hK (c_X5_byteAt l G md ma mb mc mt m1 m2 m3 m4 m5 m6 m7 th w h cnt most rch tl nc M Y C T CA CB CN CG CS Z K (x) (y) (k) hm (by omega) (by omega) (by omega)) kc_X5_87 ⟨Nat.le_of_ble_eq_true rfl, Nat.le_of_ble_eq_true rfl⟩ ⟨rfl, rfl⟩ ⟨Nat.zero_le _, Nat.zero_le _⟩ hP rfl rfl rfl rfl hl.1 rfl (Nat.le_of_ble_eq_true rfl) dX5_areUnlike_26 ?_
    refine z_bipush hx hb dX5_areUnlike_29 (by decide +kernel) ?_
    refine z_icmp_lt (tgt := 38) hx hb dX5_areUnlike_31 (by decide) (by omega) (by omega) (fun h31 => ?_) (fun h31 => ?_)
    · skip
      refine z_iconst hx hb dX5_areUnlike_38 ?_
      refine z_top (bI (mk25 (PPf Y w (w * h)) (w * h) (x + w * y) k)) (bI_0 (by omega)) ?_
      exact J39 (ls) ⟨trivial, lv_sub hl [0, 1, 2, 3, 4, 5, 6, 7, 8] rfl⟩
    · skip
      refine z_iconst hx hb dX5_areUnlike_34 ?_
      refine z_goto (tgt := 39) hx hb dX5_areUnlike_35 (by decide) ?_
      refine z_top (bI (mk25 (PPf Y w (w * h)) (w * h) (x + w * y) k)) (bI_1 (by omega)) ?_
      exact J39 (ls) ⟨trivial, lv_sub hl [0, 1, 2, 3, 4, 5, 6, 7, 8] rfl⟩

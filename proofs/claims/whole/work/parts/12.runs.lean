/-! ===== runs; the curve's and the cells' readers ===== -/
def cntB (f : Int → Bool) : Nat → Int
  | 0 => 0
  | n + 1 => cntB f n + bI (f (n : Int))
theorem cntB_s (f : Int → Bool) {k : Int} (h : 0 ≤ k) : cntB f (k + 1).toNat = cntB f k.toNat + bI (f k) := by
  rw [toNat_s h]; show cntB f k.toNat + bI (f ((k.toNat : Nat) : Int)) = _; rw [toNat_c h]
theorem cntB_b (f : Int → Bool) : ∀ n : Nat, 0 ≤ cntB f n ∧ cntB f n ≤ n := by
  intro n
  induction n with
  | zero => simp [cntB]
  | succ n ih => have := bI_01 (f (n : Int)); show 0 ≤ cntB f n + bI (f (n : Int)) ∧ cntB f n + bI (f (n : Int)) ≤ _; omega
/-- the first point where run number 'num' begins, -1 where there is none, among the first n -/
def srF (f : Int → Bool) (num : Int) : Nat → Int
  | 0 => -1
  | n + 1 => if srF f num n = -1 then (if f (n : Int) = true ∧ cntB f n = num then (n : Int) else -1) else srF f num n
theorem srF_s (f : Int → Bool) (num : Int) {k : Int} (h : 0 ≤ k) : srF f num (k + 1).toNat = if srF f num k.toNat = -1 then (if f k = true ∧ cntB f k.toNat = num then k else -1) else srF f num k.toNat := by
  rw [toNat_s h]; show (if srF f num k.toNat = -1 then (if f ((k.toNat : Nat) : Int) = true ∧ cntB f k.toNat = num then ((k.toNat : Nat) : Int) else -1) else srF f num k.toNat) = _; rw [toNat_c h]
theorem srF_st (f : Int → Bool) (num : Int) {a b : Nat} (h : a ≤ b) (ha : srF f num a ≠ -1) : srF f num b = srF f num a := by
  induction b with
  | zero => have : a = 0 := by omega
            rw [this]
  | succ n ih =>
    by_cases q : a = n + 1
    · rw [q]
    · have h1 := ih (by omega)
      show (if srF f num n = -1 then _ else srF f num n) = _
      rw [h1, if_neg ha]
theorem srF_b (f : Int → Bool) (num : Int) : ∀ n : Nat, -1 ≤ srF f num n ∧ srF f num n < n ∨ srF f num n = -1 := by
  intro n
  induction n with
  | zero => right; rfl
  | succ n ih =>
    show -1 ≤ (if srF f num n = -1 then (if f (n : Int) = true ∧ cntB f n = num then (n : Int) else -1) else srF f num n) ∧ (if srF f num n = -1 then (if f (n : Int) = true ∧ cntB f n = num then (n : Int) else -1) else srF f num n) < _ ∨ (if srF f num n = -1 then (if f (n : Int) = true ∧ cntB f n = num then (n : Int) else -1) else srF f num n) = -1
    split
    · split
      · left; omega
      · right; rfl
    · left; omega
def stR (P : Int → Int) (pts w k p : Int) : Bool := decide (p % w = 0) || decide (P (k * pts + p) ≠ P (k * pts + (p - 1)))
def isEnd (f : Int → Bool) (st pts e : Int) : Prop := (st < e ∧ e ≤ pts) ∧ (∀ j, st < j → j < e → f j = false) ∧ (e = pts ∨ f e = true)
theorem isEnd_u {f : Int → Bool} {st pts e e' : Int} (h : isEnd f st pts e) (h' : isEnd f st pts e') : e = e' := by
  obtain ⟨a1, a2, a3⟩ := h
  obtain ⟨b1, b2, b3⟩ := h'
  rcases Int.lt_trichotomy e e' with q | q | q
  · rcases a3 with a3 | a3
    · omega
    · rw [b2 e a1.1 q] at a3; cases a3
  · exact q
  · rcases b3 with b3 | b3
    · omega
    · rw [a2 e' b1.1 q] at b3; cases b3
noncomputable def endV (f : Int → Bool) (st pts : Int) : Int := Classical.epsilon (fun e : Int => isEnd f st pts e)
theorem end_eq {f : Int → Bool} {st pts e : Int} (h : isEnd f st pts e) : e = endV f st pts := isEnd_u h (Classical.epsilon_spec (p := fun e : Int => isEnd f st pts e) ⟨e, h⟩)
theorem bI_cases {b : Bool} {v : Int} (h1 : b = true → v = 1) (h0 : b = false → v = 0) : v = bI b := by cases b <;> simp_all [bI]
theorem z_xor_ge {p : Program} {l : Launch} {e : Env} {R : Room} {s : State} {m : MethodId} {args : Array Value} {below : List Frame} {meth : Method} {c : Code} {H : Heap} {locs : List Loc} {cells slots : Nat} {Q : State → Prop} {cc : ByteArray} {pc : Nat} {ls : Array Slot} {rest : List Value} (hx : p.tables.exec = Jvm.exec) (hb : c.code = cc) {a b : Int} {off : Int} {tgt : Nat} (hd : decode cc pc = .ok (.ifCond .ge off, 3)) (ht : (pc : Int) + off = (tgt : Int)) (ha : -2147483648 ≤ a ∧ a ≤ 2147483647) (hb' : 0 < b ∧ b ≤ 2147483647) (kt : 0 ≤ a → W p l e R s m args below meth c H locs cells slots Q (F0 m tgt ls rest)) (kf : ¬ 0 ≤ a → W p l e R s m args below meth c H locs cells slots Q (F0 m (pc + 3) ls rest)) : W p l e R s m args below meth c H locs cells slots Q (F0 m pc ls (.int (zI a ^^^ zI b) :: rest)) := by
  have key : 0 ≤ zI a ^^^ zI b ↔ 0 ≤ a := by
    have h1 : (zI a ^^^ zI b).toInt = ((zI a).toBitVec ^^^ (zI b).toBitVec).toInt := rfl
    rw [Int32.le_iff_toInt_le, h1]
    have h2 := BitVec.msb_eq_toInt (x := (zI a).toBitVec ^^^ (zI b).toBitVec)
    have h3 := BitVec.msb_eq_toInt (x := (zI a).toBitVec)
    have h4 := BitVec.msb_eq_toInt (x := (zI b).toBitVec)
    rw [BitVec.msb_xor, h3, h4] at h2
    have h5 : (zI a).toBitVec.toInt = a := zI_to ha
    have h6 : (zI b).toBitVec.toInt = b := zI_to (by omega)
    have h0 : (0 : Int32).toInt = 0 := rfl
    rw [h5, h6, decide_eq_false (show ¬ b < 0 by omega), Bool.xor_false, decide_eq_decide] at h2
    rw [h0]; omega
  exact lv_if_ge hx hb hd ht (fun h => kt (key.mp h)) (fun h => kf (fun q => h (key.mpr q)))

theorem tdiv_spec (x : Int) {d : Int} (hd : 0 < d ∧ d ≤ 1000000) : (0 ≤ x → x.tdiv d = x / d ∧ x.tmod d = x % d) ∧ (¬ 0 ≤ x → (x % d = 0 ∧ x.tdiv d = x / d ∧ x.tmod d = 0) ∨ (x % d ≠ 0 ∧ x.tdiv d = x / d + 1 ∧ x.tmod d = x % d - d)) := by
  refine ⟨fun h => ⟨Int.tdiv_eq_ediv_of_nonneg h, Int.tmod_eq_emod_of_nonneg h⟩, fun h => ?_⟩
  have h1 := Int.mul_ediv_add_emod x d
  have h2 := Int.emod_nonneg x (show d ≠ 0 by omega)
  have h3 := Int.emod_lt_of_pos x hd.1
  have h4 := Int.tmod_add_tdiv_mul x d
  have h5 : -d < x.tmod d ∧ x.tmod d ≤ 0 := by
    have h6 : x.tmod d = -((-x).tmod d) := by rw [Int.neg_tmod]; omega
    have h7 : (-x).tmod d = (-x) % d := Int.tmod_eq_emod_of_nonneg (by omega)
    have h8 := Int.emod_nonneg (-x) (show d ≠ 0 by omega)
    have h9 := Int.emod_lt_of_pos (-x) hd.1
    omega
  have h10 : d * (x / d) + x % d = x.tdiv d * d + x.tmod d := by omega
  have h11 : d * (x / d - x.tdiv d) = x.tmod d - x % d := by rw [Int.mul_sub, Int.mul_comm d (x.tdiv d)]; omega
  have h12 : -2 * d < d * (x / d - x.tdiv d) ∧ d * (x / d - x.tdiv d) ≤ 0 := by omega
  have h13 : x / d - x.tdiv d ≤ 0 := by
    apply Int.not_lt.mp; intro q
    have := Int.mul_le_mul_of_nonneg_left (a := 1) (b := x / d - x.tdiv d) (c := d) (by omega) (by omega)
    omega
  have h14 : -2 < x / d - x.tdiv d := by
    apply Int.not_le.mp; intro q
    have := Int.mul_le_mul_of_nonneg_left (a := x / d - x.tdiv d) (b := -2) (c := d) q (by omega)
    omega
  have h15 : x / d - x.tdiv d = 0 ∨ x / d - x.tdiv d = -1 := by omega
  rcases h15 with h15 | h15
  · rw [h15, Int.mul_zero] at h11; left; omega
  · rw [h15] at h11; right; omega
theorem tdiv_b (x : Int) {d : Int} (hd : 0 < d ∧ d ≤ 1000000) (hx : -2147483647 ≤ x ∧ x ≤ 2147483647) : -2147483647 ≤ x.tdiv d ∧ x.tdiv d ≤ 2147483647 := by
  have h1 : x.tdiv d * d = x - x.tmod d := by have := Int.tmod_add_tdiv_mul x d; omega
  have h2 := tmod_bounds (a := x) hd.1
  constructor
  · apply Int.not_lt.mp; intro q
    have := Int.mul_le_mul_of_nonneg_right (a := x.tdiv d) (b := -2147483648) (c := d) (by omega) (by omega)
    omega
  · apply Int.not_lt.mp; intro q
    have := Int.mul_le_mul_of_nonneg_right (a := 2147483648) (b := x.tdiv d) (c := d) (by omega) (by omega)
    omega

set_option maxHeartbeats 4000000 in
set_option maxRecDepth 100000 in
theorem c_X3_startsRun (l : Launch) (G : zG) (pg ik mx co pa : Nat) (w h pts cnt most rch : Int) (M C P : Int → Int) (k q : Int) (hp : pgOK w h pts cnt most rch M C P) (hk : 0 ≤ k ∧ k < 8) (hq : 0 ≤ q ∧ q < pts) : zRd l yX3_startsRun cX3_startsRun 3 (some .boolean) { frames := 1, cells := 0, slots := 0, locals := 22 } G [.ref pg, .int (zI (k)), .int (zI (q))] (pgL G pg ik mx co pa w h pts cnt most rch M C P) (bI (stR P pts w k q)) := by
  refine Met.ofW (cc := cX3_startsRun) (maxL := 3) (ret := (some .boolean)) (by decide) rfl ?_
  intro p e s m args below meth c s₁ B hml hv
  obtain ⟨rfl, hP, hK⟩ := hv
  have hx := B.exec
  have hb := B.bytes
  have hr := B.returns
  have hT : ∀ w ∈ TB, w.before _ s = true := fun w h => atoms_spec (ws := Cond.code yX3_startsRun cX3_startsRun 3 (some .boolean) :: TB) B.pre w (List.mem_cons_of_mem _ h)
  have hown : s.vm.findClass RX3 = some m.cls := findClass_of_methodNamed B.named
  have hlocks := B.notSynchronized
  have hl := lv_entry ([.ref pg, .int (zI (k)), .int (zI (q))]) (n := 3) (Nat.le_of_ble_eq_true rfl)
  rw [lg_entry_eq]
  generalize (lg_sl ([.ref pg, .int (zI (k)), .int (zI (q))]) ++ List.replicate (3 - (lg_sl ([.ref pg, .int (zI (k)), .int (zI (q))])).length) Slot.unset).toArray = ls at hl ⊢
  have hl : lv_has ls 3 [(0, .ref pg), (1, .int (zI (k))), (2, .int (zI (q)))] := hl
  obtain ⟨hw, hh, hpts, hcnt, hmost, hrch, hM, hC, hB⟩ := id hp
  have hpt := pgOK_pts hp
  have hqm := Int.emod_nonneg q (show w ≠ 0 by omega)
  have hqm2 := Int.emod_lt_of_pos q (show 0 < w by omega)
  refine lv_iload_n hx hb dX3_startsRun_0 rfl (lv_at hl 2 rfl) ?_
  refine lv_aload_n hx hb dX3_startsRun_1 rfl (lv_at hl 0 rfl) ?_
  refine gf_X3_25 hx hb hT hown hK hP 0 rfl rfl dX3_startsRun_2 ?_
  refine z_irem hx hb dX3_startsRun_5 (by omega) (by omega) ?_
  refine z_if_eq (tgt := 26) hx hb dX3_startsRun_6 (by decide) (by omega) (fun h6 => ?_) (fun h6 => ?_)
  · skip
    refine z_iconst hx hb dX3_startsRun_26 ?_
    refine z_goto (tgt := 31) hx hb dX3_startsRun_27 (by decide) ?_
    exact z_zret hx hb hr hlocks (by first | exact Or.inl rfl | exact Or.inr rfl) (by refine bI_cases (fun h9 => ?_) (fun h9 => ?_) <;> first | rfl | (exfalso; simp only [stR, Bool.or_eq_true, Bool.or_eq_false_iff, decide_eq_true_eq, decide_eq_false_iff_not] at h9; omega)) dX3_startsRun_31
  · skip
    have hq1 : q ≠ 0 := fun h9 => h6 (by rw [h9]; simp)
    have hb1 := hB (k * pts + q)
    have hb2 := hB (k * pts + (q - 1))
    refine lv_aload_n hx hb dX3_startsRun_9 rfl (lv_at hl 0 rfl) ?_
    refine lv_iload_n hx hb dX3_startsRun_10 rfl (lv_at hl 1 rfl) ?_
    refine lv_iload_n hx hb dX3_startsRun_11 rfl (lv_at hl 2 rfl) ?_
    refine z_callV (q0 := 0) (G := G) (As := [.int (zI (k)), .int (zI (q))]) (rest := []) hx hb hml hown hT hK (c_X3_byteAt l G pg ik mx co pa w h pts cnt most rch M C P (k) (q) hp (by omega) (by omega)) kc_X3_38 ⟨Nat.le_of_ble_eq_true rfl, Nat.le_of_ble_eq_true rfl⟩ ⟨rfl, rfl⟩ ⟨Nat.zero_le _, Nat.zero_le _⟩ hP rfl rfl rfl rfl hl.1 rfl (Nat.le_of_ble_eq_true rfl) dX3_startsRun_12 ?_
    refine lv_aload_n hx hb dX3_startsRun_15 rfl (lv_at hl 0 rfl) ?_
    refine lv_iload_n hx hb dX3_startsRun_16 rfl (lv_at hl 1 rfl) ?_
    refine lv_iload_n hx hb dX3_startsRun_17 rfl (lv_at hl 2 rfl) ?_
    refine z_iconst hx hb dX3_startsRun_18 ?_
    refine z_isub hx hb dX3_startsRun_19 ?_
    refine z_callV (q0 := 0) (G := G) (As := [.int (zI (k)), .int (zI ((q - 1)))]) (rest := [.int (zI ((P (k * pts + q))))]) hx hb hml hown hT hK (c_X3_byteAt l G pg ik mx co pa w h pts cnt most rch M C P (k) ((q - 1)) hp (by omega) (by omega)) kc_X3_38 ⟨Nat.le_of_ble_eq_true rfl, Nat.le_of_ble_eq_true rfl⟩ ⟨rfl, rfl⟩ ⟨Nat.zero_le _, Nat.zero_le _⟩ hP rfl rfl rfl rfl hl.1 rfl (Nat.le_of_ble_eq_true rfl) dX3_startsRun_20 ?_
    refine z_icmp_eq (tgt := 30) hx hb dX3_startsRun_23 (by decide) (by omega) (by omega) (fun h23 => ?_) (fun h23 => ?_)
    · skip
      refine z_iconst hx hb dX3_startsRun_30 ?_
      exact z_zret hx hb hr hlocks (by first | exact Or.inl rfl | exact Or.inr rfl) (by refine bI_cases (fun h9 => ?_) (fun h9 => ?_) <;> first | rfl | (exfalso; simp only [stR, Bool.or_eq_true, Bool.or_eq_false_iff, decide_eq_true_eq, decide_eq_false_iff_not] at h9; omega)) dX3_startsRun_31
    · skip
      refine z_iconst hx hb dX3_startsRun_26 ?_
      refine z_goto (tgt := 31) hx hb dX3_startsRun_27 (by decide) ?_
      exact z_zret hx hb hr hlocks (by first | exact Or.inl rfl | exact Or.inr rfl) (by refine bI_cases (fun h9 => ?_) (fun h9 => ?_) <;> first | rfl | (exfalso; simp only [stR, Bool.or_eq_true, Bool.or_eq_false_iff, decide_eq_true_eq, decide_eq_false_iff_not] at h9; omega)) dX3_startsRun_31

set_option maxHeartbeats 4000000 in
set_option maxRecDepth 100000 in
theorem c_X3_countRuns (l : Launch) (G : zG) (pg ik mx co pa : Nat) (w h pts cnt most rch : Int) (M C P : Int → Int) (k : Int) (hp : pgOK w h pts cnt most rch M C P) (hk : 0 ≤ k ∧ k < 8) : zRd l yX3_countRuns cX3_countRuns 4 (some .int) { frames := 2, cells := 0, slots := 0, locals := 44 } G [.ref pg, .int (zI (k))] (pgL G pg ik mx co pa w h pts cnt most rch M C P) (cntB (stR P pts w k) pts.toNat) := by
  refine Met.ofW (cc := cX3_countRuns) (maxL := 4) (ret := (some .int)) (by decide) rfl ?_
  intro p e s m args below meth c s₁ B hml hv
  obtain ⟨rfl, hP, hK⟩ := hv
  have hx := B.exec
  have hb := B.bytes
  have hr := B.returns
  have hT : ∀ w ∈ TB, w.before _ s = true := fun w h => atoms_spec (ws := Cond.code yX3_countRuns cX3_countRuns 4 (some .int) :: TB) B.pre w (List.mem_cons_of_mem _ h)
  have hown : s.vm.findClass RX3 = some m.cls := findClass_of_methodNamed B.named
  have hlocks := B.notSynchronized
  have hl := lv_entry ([.ref pg, .int (zI (k))]) (n := 4) (Nat.le_of_ble_eq_true rfl)
  rw [lg_entry_eq]
  generalize (lg_sl ([.ref pg, .int (zI (k))]) ++ List.replicate (4 - (lg_sl ([.ref pg, .int (zI (k))])).length) Slot.unset).toArray = ls at hl ⊢
  have hl : lv_has ls 4 [(0, .ref pg), (1, .int (zI (k)))] := hl
  obtain ⟨hw, hh, hpts, hcnt, hmost, hrch, hM, hC, hB⟩ := id hp
  have hpt := pgOK_pts hp
  refine z_iconst hx hb dX3_countRuns_0 ?_
  refine lv_istore_n (lv' := [(2, .int (zI (0))), (0, .ref pg), (1, .int (zI (k)))]) hx hb dX3_countRuns_1 rfl hl (by decide) rfl (fun ls hl => ?_)
  refine z_iconst hx hb dX3_countRuns_2 ?_
  refine lv_istore_n (lv' := [(3, .int (zI (0))), (2, .int (zI (0))), (0, .ref pg), (1, .int (zI (k)))]) hx hb dX3_countRuns_3 rfl hl (by decide) rfl (fun ls hl => ?_)
  refine z_loop (σ := Int × Array Slot) (fun zq => F0 m 4 (zq.2) []) (fun zq => (0 ≤ zq.1 ∧ zq.1 ≤ pts) ∧ lv_has (zq.2) 4 [(0, .ref pg), (1, .int (zI (k))), (2, .int (zI (cntB (stR P pts w k) zq.1.toNat))), (3, .int (zI (zq.1)))]) (fun zq => (pts - zq.1).toNat) ?_ (0, ls) ⟨by refine ⟨?_, ?_⟩ <;> omega, lv_sub hl [2, 3, 1, 0] rfl⟩
  intro zq hq ih
  obtain ⟨q, ls⟩ := zq
  obtain ⟨hI, hl⟩ := hq
  try dsimp only at hI hl ih ⊢
  have ih4 := ih
  refine lv_iload_n hx hb dX3_countRuns_4 rfl (lv_at hl 3 rfl) ?_
  refine lv_aload_n hx hb dX3_countRuns_5 rfl (lv_at hl 0 rfl) ?_
  refine gf_X3_31 hx hb hT hown hK hP 0 rfl rfl dX3_countRuns_6 ?_
  refine z_icmp_ge (tgt := 30) hx hb dX3_countRuns_9 (by decide) (by omega) (by omega) (fun h9 => ?_) (fun h9 => ?_)
  · skip
    refine lv_iload_n hx hb dX3_countRuns_30 rfl (lv_at hl 2 rfl) ?_
    exact z_iret hx hb hr hlocks (by have hkc : q = pts := (by omega); subst hkc; rfl) dX3_countRuns_31
  · skip
    have hc9 := cntB_b (stR P pts w k) q.toNat
    have hs9 := bI_01 (stR P pts w k q)
    have hcs := cntB_s (stR P pts w k) (k := q) (by omega)
    refine lv_aload_n hx hb dX3_countRuns_12 rfl (lv_at hl 0 rfl) ?_
    refine lv_iload_n hx hb dX3_countRuns_13 rfl (lv_at hl 1 rfl) ?_
    refine lv_iload_n hx hb dX3_countRuns_14 rfl (lv_at hl 3 rfl) ?_
    refine z_callV (q0 := 0) (G := G) (As := [.int (zI (k)), .int (zI (q))]) (rest := []) hx hb hml hown hT hK (c_X3_startsRun l G pg ik mx co pa w h pts cnt most rch M C P (k) (q) hp (by omega) (by omega)) kc_X3_89 ⟨Nat.le_of_ble_eq_true rfl, Nat.le_of_ble_eq_true rfl⟩ ⟨rfl, rfl⟩ ⟨Nat.zero_le _, Nat.zero_le _⟩ hP rfl rfl rfl rfl hl.1 rfl (Nat.le_of_ble_eq_true rfl) dX3_countRuns_15 ?_
    refine z_if_eq (tgt := 24) hx hb dX3_countRuns_18 (by decide) (by omega) (fun h18 => ?_) (fun h18 => ?_)
    · skip
      refine lv_iinc (v := zI (q + (1))) (lv' := [(3, .int (zI (q + (1)))), (0, .ref pg), (1, .int (zI (k))), (2, .int (zI (cntB (stR P pts w k) q.toNat)))]) hx hb dX3_countRuns_24 hl (k := 3) rfl (zI_add _ _) (by decide) rfl (fun ls hl => ?_)
      refine z_goto (tgt := 4) hx hb dX3_countRuns_27 (by decide) ?_
      rw [show ((cntB (stR P pts w k) q.toNat) : Int) = cntB (stR P pts w k) (q + 1).toNat by omega] at hl
      exact ih4 (q + 1, ls) ⟨by refine ⟨?_, ?_⟩ <;> omega, lv_sub hl [1, 2, 3, 0] rfl⟩ (by omega)
    · skip
      refine lv_iinc (v := zI (cntB (stR P pts w k) q.toNat + (1))) (lv' := [(2, .int (zI (cntB (stR P pts w k) q.toNat + (1)))), (0, .ref pg), (1, .int (zI (k))), (3, .int (zI (q)))]) hx hb dX3_countRuns_21 hl (k := 2) rfl (zI_add _ _) (by decide) rfl (fun ls hl => ?_)
      refine lv_iinc (v := zI (q + (1))) (lv' := [(3, .int (zI (q + (1)))), (2, .int (zI (cntB (stR P pts w k) q.toNat + (1)))), (0, .ref pg), (1, .int (zI (k)))]) hx hb dX3_countRuns_24 hl (k := 3) rfl (zI_add _ _) (by decide) rfl (fun ls hl => ?_)
      refine z_goto (tgt := 4) hx hb dX3_countRuns_27 (by decide) ?_
      rw [show ((cntB (stR P pts w k) q.toNat + (1)) : Int) = cntB (stR P pts w k) (q + 1).toNat by omega] at hl
      exact ih4 (q + 1, ls) ⟨by refine ⟨?_, ?_⟩ <;> omega, lv_sub hl [2, 3, 1, 0] rfl⟩ (by omega)

set_option maxHeartbeats 4000000 in
set_option maxRecDepth 100000 in
theorem c_X3_startOfRun (l : Launch) (G : zG) (pg ik mx co pa : Nat) (w h pts cnt most rch : Int) (M C P : Int → Int) (k num : Int) (hp : pgOK w h pts cnt most rch M C P) (hk : 0 ≤ k ∧ k < 8) (hnum : -2147483648 ≤ num ∧ num ≤ 2147483647) : zRd l yX3_startOfRun cX3_startOfRun 5 (some .int) { frames := 2, cells := 0, slots := 0, locals := 44 } G [.ref pg, .int (zI (k)), .int (zI (num))] (pgL G pg ik mx co pa w h pts cnt most rch M C P) (srF (stR P pts w k) num pts.toNat) := by
  refine Met.ofW (cc := cX3_startOfRun) (maxL := 5) (ret := (some .int)) (by decide) rfl ?_
  intro p e s m args below meth c s₁ B hml hv
  obtain ⟨rfl, hP, hK⟩ := hv
  have hx := B.exec
  have hb := B.bytes
  have hr := B.returns
  have hT : ∀ w ∈ TB, w.before _ s = true := fun w h => atoms_spec (ws := Cond.code yX3_startOfRun cX3_startOfRun 5 (some .int) :: TB) B.pre w (List.mem_cons_of_mem _ h)
  have hown : s.vm.findClass RX3 = some m.cls := findClass_of_methodNamed B.named
  have hlocks := B.notSynchronized
  have hl := lv_entry ([.ref pg, .int (zI (k)), .int (zI (num))]) (n := 5) (Nat.le_of_ble_eq_true rfl)
  rw [lg_entry_eq]
  generalize (lg_sl ([.ref pg, .int (zI (k)), .int (zI (num))]) ++ List.replicate (5 - (lg_sl ([.ref pg, .int (zI (k)), .int (zI (num))])).length) Slot.unset).toArray = ls at hl ⊢
  have hl : lv_has ls 5 [(0, .ref pg), (1, .int (zI (k))), (2, .int (zI (num)))] := hl
  obtain ⟨hw, hh, hpts, hcnt, hmost, hrch, hM, hC, hB⟩ := id hp
  have hpt := pgOK_pts hp
  refine z_iconst hx hb dX3_startOfRun_0 ?_
  refine lv_istore_n (lv' := [(3, .int (zI (0))), (0, .ref pg), (1, .int (zI (k))), (2, .int (zI (num)))]) hx hb dX3_startOfRun_1 rfl hl (by decide) rfl (fun ls hl => ?_)
  refine z_iconst hx hb dX3_startOfRun_2 ?_
  refine lv_istore (lv' := [(4, .int (zI (0))), (3, .int (zI (0))), (0, .ref pg), (1, .int (zI (k))), (2, .int (zI (num)))]) hx hb dX3_startOfRun_3 hl (by decide) rfl (fun ls hl => ?_)
  refine z_loop (σ := Int × Array Slot) (fun zq => F0 m 5 (zq.2) []) (fun zq => ((0 ≤ zq.1 ∧ zq.1 ≤ pts) ∧ srF (stR P pts w k) num zq.1.toNat = -1) ∧ lv_has (zq.2) 5 [(0, .ref pg), (1, .int (zI (k))), (2, .int (zI (num))), (3, .int (zI (cntB (stR P pts w k) zq.1.toNat))), (4, .int (zI (zq.1)))]) (fun zq => (pts - zq.1).toNat) ?_ (0, ls) ⟨⟨by omega, rfl⟩, lv_sub hl [2, 3, 4, 1, 0] rfl⟩
  intro zq hq ih
  obtain ⟨q, ls⟩ := zq
  obtain ⟨⟨hI, hI2⟩, hl⟩ := hq
  try dsimp only at hI hI2 hl ih ⊢
  have ih5 := ih
  refine lv_iload hx hb dX3_startOfRun_5 (lv_at hl 4 rfl) ?_
  refine lv_aload_n hx hb dX3_startOfRun_7 rfl (lv_at hl 0 rfl) ?_
  refine gf_X3_31 hx hb hT hown hK hP 0 rfl rfl dX3_startOfRun_8 ?_
  refine z_icmp_ge (tgt := 41) hx hb dX3_startOfRun_11 (by decide) (by omega) (by omega) (fun h11 => ?_) (fun h11 => ?_)
  · skip
    refine z_iconst hx hb dX3_startOfRun_41 ?_
    exact z_iret hx hb hr hlocks (by have hkc : q = pts := (by omega); subst hkc; exact hI2.symm) dX3_startOfRun_42
  · skip
    have hc9 := cntB_b (stR P pts w k) q.toNat
    have hs9 := bI_01 (stR P pts w k q)
    have hcs := cntB_s (stR P pts w k) (k := q) (by omega)
    refine lv_aload_n hx hb dX3_startOfRun_14 rfl (lv_at hl 0 rfl) ?_
    refine lv_iload_n hx hb dX3_startOfRun_15 rfl (lv_at hl 1 rfl) ?_
    refine lv_iload hx hb dX3_startOfRun_16 (lv_at hl 4 rfl) ?_
    refine z_callV (q0 := 0) (G := G) (As := [.int (zI (k)), .int (zI (q))]) (rest := []) hx hb hml hown hT hK (c_X3_startsRun l G pg ik mx co pa w h pts cnt most rch M C P (k) (q) hp (by omega) (by omega)) kc_X3_89 ⟨Nat.le_of_ble_eq_true rfl, Nat.le_of_ble_eq_true rfl⟩ ⟨rfl, rfl⟩ ⟨Nat.zero_le _, Nat.zero_le _⟩ hP rfl rfl rfl rfl hl.1 rfl (Nat.le_of_ble_eq_true rfl) dX3_startOfRun_18 ?_
    refine z_if_eq (tgt := 35) hx hb dX3_startOfRun_21 (by decide) (by omega) (fun h21 => ?_) (fun h21 => ?_)
    · skip
      refine lv_iinc (v := zI (q + (1))) (lv' := [(4, .int (zI (q + (1)))), (0, .ref pg), (1, .int (zI (k))), (2, .int (zI (num))), (3, .int (zI (cntB (stR P pts w k) q.toNat)))]) hx hb dX3_startOfRun_35 hl (k := 4) rfl (zI_add _ _) (by decide) rfl (fun ls hl => ?_)
      refine z_goto (tgt := 5) hx hb dX3_startOfRun_38 (by decide) ?_
      rw [show ((cntB (stR P pts w k) q.toNat) : Int) = cntB (stR P pts w k) (q + 1).toNat by omega] at hl
      exact ih5 (q + 1, ls) ⟨⟨by omega, by rw [srF_s _ _ (by omega), if_pos hI2]; refine if_neg (fun h9 => ?_); first | (rw [bI_f.mp h21] at h9; cases h9.1) | exact h26 h9.2⟩, lv_sub hl [1, 2, 3, 4, 0] rfl⟩ (by omega)
    · skip
      refine lv_iload_n hx hb dX3_startOfRun_24 rfl (lv_at hl 3 rfl) ?_
      refine lv_iload_n hx hb dX3_startOfRun_25 rfl (lv_at hl 2 rfl) ?_
      refine z_icmp_ne (tgt := 32) hx hb dX3_startOfRun_26 (by decide) (by omega) (by omega) (fun h26 => ?_) (fun h26 => ?_)
      · skip
        refine lv_iinc (v := zI (cntB (stR P pts w k) q.toNat + (1))) (lv' := [(3, .int (zI (cntB (stR P pts w k) q.toNat + (1)))), (0, .ref pg), (1, .int (zI (k))), (2, .int (zI (num))), (4, .int (zI (q)))]) hx hb dX3_startOfRun_32 hl (k := 3) rfl (zI_add _ _) (by decide) rfl (fun ls hl => ?_)
        refine lv_iinc (v := zI (q + (1))) (lv' := [(4, .int (zI (q + (1)))), (3, .int (zI (cntB (stR P pts w k) q.toNat + (1)))), (0, .ref pg), (1, .int (zI (k))), (2, .int (zI (num)))]) hx hb dX3_startOfRun_35 hl (k := 4) rfl (zI_add _ _) (by decide) rfl (fun ls hl => ?_)
        refine z_goto (tgt := 5) hx hb dX3_startOfRun_38 (by decide) ?_
        rw [show ((cntB (stR P pts w k) q.toNat + (1)) : Int) = cntB (stR P pts w k) (q + 1).toNat by omega] at hl
        exact ih5 (q + 1, ls) ⟨⟨by omega, by rw [srF_s _ _ (by omega), if_pos hI2]; refine if_neg (fun h9 => ?_); first | (rw [bI_f.mp h21] at h9; cases h9.1) | exact h26 h9.2⟩, lv_sub hl [2, 3, 4, 1, 0] rfl⟩ (by omega)
      · skip
        refine lv_iload hx hb dX3_startOfRun_29 (lv_at hl 4 rfl) ?_
        exact z_iret hx hb hr hlocks (by have h9 : srF (stR P pts w k) num (q + 1).toNat = q := (by rw [srF_s _ _ (by omega), if_pos hI2, if_pos ⟨bI_t.mp h21, h26⟩]); rw [srF_st _ _ (a := (q + 1).toNat) (by omega) (by omega), h9]) dX3_startOfRun_31

set_option maxHeartbeats 4000000 in
set_option maxRecDepth 100000 in
theorem c_X3_lengthOfRun (l : Launch) (G : zG) (pg ik mx co pa : Nat) (w h pts cnt most rch : Int) (M C P : Int → Int) (k st : Int) (hp : pgOK w h pts cnt most rch M C P) (hk : 0 ≤ k ∧ k < 8) (hst : 0 ≤ st ∧ st < pts) : zRd l yX3_lengthOfRun cX3_lengthOfRun 4 (some .int) { frames := 2, cells := 0, slots := 0, locals := 44 } G [.ref pg, .int (zI (k)), .int (zI (st))] (pgL G pg ik mx co pa w h pts cnt most rch M C P) (endV (stR P pts w k) st pts - st) := by
  refine Met.ofW (cc := cX3_lengthOfRun) (maxL := 4) (ret := (some .int)) (by decide) rfl ?_
  intro p e s m args below meth c s₁ B hml hv
  obtain ⟨rfl, hP, hK⟩ := hv
  have hx := B.exec
  have hb := B.bytes
  have hr := B.returns
  have hT : ∀ w ∈ TB, w.before _ s = true := fun w h => atoms_spec (ws := Cond.code yX3_lengthOfRun cX3_lengthOfRun 4 (some .int) :: TB) B.pre w (List.mem_cons_of_mem _ h)
  have hown : s.vm.findClass RX3 = some m.cls := findClass_of_methodNamed B.named
  have hlocks := B.notSynchronized
  have hl := lv_entry ([.ref pg, .int (zI (k)), .int (zI (st))]) (n := 4) (Nat.le_of_ble_eq_true rfl)
  rw [lg_entry_eq]
  generalize (lg_sl ([.ref pg, .int (zI (k)), .int (zI (st))]) ++ List.replicate (4 - (lg_sl ([.ref pg, .int (zI (k)), .int (zI (st))])).length) Slot.unset).toArray = ls at hl ⊢
  have hl : lv_has ls 4 [(0, .ref pg), (1, .int (zI (k))), (2, .int (zI (st)))] := hl
  obtain ⟨hw, hh, hpts, hcnt, hmost, hrch, hM, hC, hB⟩ := id hp
  have hpt := pgOK_pts hp
  refine lv_iload_n hx hb dX3_lengthOfRun_0 rfl (lv_at hl 2 rfl) ?_
  refine z_iconst hx hb dX3_lengthOfRun_1 ?_
  refine z_iadd hx hb dX3_lengthOfRun_2 ?_
  refine lv_istore_n (lv' := [(3, .int (zI ((st + 1)))), (0, .ref pg), (1, .int (zI (k))), (2, .int (zI (st)))]) hx hb dX3_lengthOfRun_3 rfl hl (by decide) rfl (fun ls hl => ?_)
  refine z_loop (σ := Int × Array Slot) (fun zq => F0 m 4 (zq.2) []) (fun zq => ((st < zq.1 ∧ zq.1 ≤ pts) ∧ ∀ j, st < j → j < zq.1 → stR P pts w k j = false) ∧ lv_has (zq.2) 4 [(0, .ref pg), (1, .int (zI (k))), (2, .int (zI (st))), (3, .int (zI (zq.1)))]) (fun zq => (pts - zq.1).toNat) ?_ ((st + 1), ls) ⟨⟨by dsimp only; omega, fun j h1 h2 => by dsimp only at h2; omega⟩, lv_sub hl [1, 2, 3, 0] rfl⟩
  intro zq hq ih
  obtain ⟨q, ls⟩ := zq
  obtain ⟨⟨hI, hI2⟩, hl⟩ := hq
  try dsimp only at hI hI2 hl ih ⊢
  have ih4 := ih
  refine lv_iload_n hx hb dX3_lengthOfRun_4 rfl (lv_at hl 3 rfl) ?_
  refine lv_aload_n hx hb dX3_lengthOfRun_5 rfl (lv_at hl 0 rfl) ?_
  refine gf_X3_31 hx hb hT hown hK hP 0 rfl rfl dX3_lengthOfRun_6 ?_
  refine z_icmp_ge (tgt := 27) hx hb dX3_lengthOfRun_9 (by decide) (by omega) (by omega) (fun h9 => ?_) (fun h9 => ?_)
  · skip
    refine lv_iload_n hx hb dX3_lengthOfRun_27 rfl (lv_at hl 3 rfl) ?_
    refine lv_iload_n hx hb dX3_lengthOfRun_28 rfl (lv_at hl 2 rfl) ?_
    refine z_isub hx hb dX3_lengthOfRun_29 ?_
    exact z_iret hx hb hr hlocks (by rw [← end_eq (e := q) ⟨by omega, hI2, by first | exact Or.inl (by omega) | exact Or.inr (bI_t.mp h18)⟩]) dX3_lengthOfRun_30
  · skip
    have hs9 := bI_01 (stR P pts w k q)
    refine lv_aload_n hx hb dX3_lengthOfRun_12 rfl (lv_at hl 0 rfl) ?_
    refine lv_iload_n hx hb dX3_lengthOfRun_13 rfl (lv_at hl 1 rfl) ?_
    refine lv_iload_n hx hb dX3_lengthOfRun_14 rfl (lv_at hl 3 rfl) ?_
    refine z_callV (q0 := 0) (G := G) (As := [.int (zI (k)), .int (zI (q))]) (rest := []) hx hb hml hown hT hK (c_X3_startsRun l G pg ik mx co pa w h pts cnt most rch M C P (k) (q) hp (by omega) (by omega)) kc_X3_89 ⟨Nat.le_of_ble_eq_true rfl, Nat.le_of_ble_eq_true rfl⟩ ⟨rfl, rfl⟩ ⟨Nat.zero_le _, Nat.zero_le _⟩ hP rfl rfl rfl rfl hl.1 rfl (Nat.le_of_ble_eq_true rfl) dX3_lengthOfRun_15 ?_
    refine z_if_ne (tgt := 27) hx hb dX3_lengthOfRun_18 (by decide) (by omega) (fun h18 => ?_) (fun h18 => ?_)
    · skip
      refine lv_iload_n hx hb dX3_lengthOfRun_27 rfl (lv_at hl 3 rfl) ?_
      refine lv_iload_n hx hb dX3_lengthOfRun_28 rfl (lv_at hl 2 rfl) ?_
      refine z_isub hx hb dX3_lengthOfRun_29 ?_
      exact z_iret hx hb hr hlocks (by rw [← end_eq (e := q) ⟨by omega, hI2, by first | exact Or.inl (by omega) | exact Or.inr (bI_t.mp h18)⟩]) dX3_lengthOfRun_30
    · skip
      refine lv_iinc (v := zI (q + (1))) (lv' := [(3, .int (zI (q + (1)))), (0, .ref pg), (1, .int (zI (k))), (2, .int (zI (st)))]) hx hb dX3_lengthOfRun_21 hl (k := 3) rfl (zI_add _ _) (by decide) rfl (fun ls hl => ?_)
      refine z_goto (tgt := 4) hx hb dX3_lengthOfRun_24 (by decide) ?_
      exact ih4 (q + 1, ls) ⟨⟨by dsimp only; omega, fun j h1 h2 => by dsimp only at h2; by_cases hj : j = q; (rw [hj]; exact bI_f.mp h18); exact hI2 j h1 (by omega)⟩, lv_sub hl [1, 2, 3, 0] rfl⟩ (by omega)

set_option maxHeartbeats 4000000 in
set_option maxRecDepth 100000 in
theorem c_J9_floorDiv_7cf53 (l : Launch) (G : zG) (x d : Int) (hx1 : -2147483647 ≤ x ∧ x ≤ 2147483647) (hd : 0 < d ∧ d ≤ 1000000) : zRd l yJ9_floorDiv_7cf53 cJ9_floorDiv_7cf53 3 (some .int) { frames := 0, cells := 0, slots := 0, locals := 0 } G [.int (zI (x)), .int (zI (d))] ([]) (x / d) := by
  refine va_MetF (cc := cJ9_floorDiv_7cf53) (maxL := 3) (ret := (some .int)) (by decide +kernel) rfl ?_
  intro p e s m args below meth c s₁ B hml hv
  obtain ⟨rfl, hP, hK⟩ := hv
  have hx := B.exec
  have hb := B.bytes
  have hr := B.returns
  have hT : ∀ w ∈ TB, w.before _ s = true := fun w h => atoms_spec (ws := Cond.code yJ9_floorDiv_7cf53 cJ9_floorDiv_7cf53 3 (some .int) :: TB) B.pre w (List.mem_cons_of_mem _ h)
  have hown : s.vm.findClass RJ9 = some m.cls := findClass_of_methodNamed B.named
  have hlocks := B.notSynchronized
  have hl := lv_entry ([.int (zI (x)), .int (zI (d))]) (n := 3) (Nat.le_of_ble_eq_true rfl)
  rw [lg_entry_eq]
  generalize (lg_sl ([.int (zI (x)), .int (zI (d))]) ++ List.replicate (3 - (lg_sl ([.int (zI (x)), .int (zI (d))])).length) Slot.unset).toArray = ls at hl ⊢
  have hl : lv_has ls 3 [(0, .int (zI (x))), (1, .int (zI (d)))] := hl
  have hdm := Int.mul_ediv_add_emod x d
  have hm1 := Int.emod_nonneg x (show d ≠ 0 by omega)
  have hm2 := Int.emod_lt_of_pos x (show 0 < d by omega)
  have hcm : x / d * d = d * (x / d) := Int.mul_comm _ _
  obtain ⟨hT1, hT2⟩ := tdiv_spec x hd
  have htm := Int.tmod_add_tdiv_mul x d
  have htb := tdiv_b x hd hx1
  refine lv_iload_n hx hb dJ9_floorDiv_7cf53_0 rfl (lv_at hl 0 rfl) ?_
  refine lv_iload_n hx hb dJ9_floorDiv_7cf53_1 rfl (lv_at hl 1 rfl) ?_
  refine z_itdiv hx hb dJ9_floorDiv_7cf53_2 (by omega) (by omega) (by omega) ?_
  refine lv_istore_n (lv' := [(2, .int (zI ((Int.tdiv (x) (d))))), (0, .int (zI (x))), (1, .int (zI (d)))]) hx hb dJ9_floorDiv_7cf53_3 rfl hl (by decide) rfl (fun ls hl => ?_)
  refine lv_iload_n hx hb dJ9_floorDiv_7cf53_4 rfl (lv_at hl 1 rfl) ?_
  refine lv_iload_n hx hb dJ9_floorDiv_7cf53_5 rfl (lv_at hl 2 rfl) ?_
  refine lv_ixor hx hb dJ9_floorDiv_7cf53_6 ?_
  refine z_xor_ge (tgt := 21) hx hb dJ9_floorDiv_7cf53_7 (by decide) (by omega) (by omega) (fun h7 => ?_) (fun h7 => ?_)
  · skip
    refine lv_iload_n hx hb dJ9_floorDiv_7cf53_21 rfl (lv_at hl 0 rfl) ?_
    exact z_iret hx hb hr hlocks (by omega) dJ9_floorDiv_7cf53_22
  · skip
    refine lv_iload_n hx hb dJ9_floorDiv_7cf53_10 rfl (lv_at hl 0 rfl) ?_
    refine lv_iload_n hx hb dJ9_floorDiv_7cf53_11 rfl (lv_at hl 2 rfl) ?_
    refine z_imul hx hb dJ9_floorDiv_7cf53_12 ?_
    refine lv_iload_n hx hb dJ9_floorDiv_7cf53_13 rfl (lv_at hl 1 rfl) ?_
    refine z_icmp_eq (tgt := 21) hx hb dJ9_floorDiv_7cf53_14 (by decide) (by omega) (by omega) (fun h14 => ?_) (fun h14 => ?_)
    · skip
      refine lv_iload_n hx hb dJ9_floorDiv_7cf53_21 rfl (lv_at hl 0 rfl) ?_
      exact z_iret hx hb hr hlocks (by omega) dJ9_floorDiv_7cf53_22
    · skip
      refine lv_iload_n hx hb dJ9_floorDiv_7cf53_17 rfl (lv_at hl 0 rfl) ?_
      refine z_iconst hx hb dJ9_floorDiv_7cf53_18 ?_
      refine z_isub hx hb dJ9_floorDiv_7cf53_19 ?_
      exact z_iret hx hb hr hlocks (by omega) dJ9_floorDiv_7cf53_20

set_option maxHeartbeats 4000000 in
set_option maxRecDepth 100000 in
theorem c_J9_floorMod_7cf53 (l : Launch) (G : zG) (x d : Int) (hx1 : -2147483647 ≤ x ∧ x ≤ 2147483647) (hd : 0 < d ∧ d ≤ 1000000) : zRd l yJ9_floorMod_7cf53 cJ9_floorMod_7cf53 3 (some .int) { frames := 0, cells := 0, slots := 0, locals := 0 } G [.int (zI (x)), .int (zI (d))] ([]) (x % d) := by
  refine va_MetF (cc := cJ9_floorMod_7cf53) (maxL := 3) (ret := (some .int)) (by decide +kernel) rfl ?_
  intro p e s m args below meth c s₁ B hml hv
  obtain ⟨rfl, hP, hK⟩ := hv
  have hx := B.exec
  have hb := B.bytes
  have hr := B.returns
  have hT : ∀ w ∈ TB, w.before _ s = true := fun w h => atoms_spec (ws := Cond.code yJ9_floorMod_7cf53 cJ9_floorMod_7cf53 3 (some .int) :: TB) B.pre w (List.mem_cons_of_mem _ h)
  have hown : s.vm.findClass RJ9 = some m.cls := findClass_of_methodNamed B.named
  have hlocks := B.notSynchronized
  have hl := lv_entry ([.int (zI (x)), .int (zI (d))]) (n := 3) (Nat.le_of_ble_eq_true rfl)
  rw [lg_entry_eq]
  generalize (lg_sl ([.int (zI (x)), .int (zI (d))]) ++ List.replicate (3 - (lg_sl ([.int (zI (x)), .int (zI (d))])).length) Slot.unset).toArray = ls at hl ⊢
  have hl : lv_has ls 3 [(0, .int (zI (x))), (1, .int (zI (d)))] := hl
  have hdm := Int.mul_ediv_add_emod x d
  have hm1 := Int.emod_nonneg x (show d ≠ 0 by omega)
  have hm2 := Int.emod_lt_of_pos x (show 0 < d by omega)
  have hcm : x / d * d = d * (x / d) := Int.mul_comm _ _
  obtain ⟨hT1, hT2⟩ := tdiv_spec x hd
  have htm := Int.tmod_add_tdiv_mul x d
  have htb := tdiv_b x hd hx1
  refine lv_iload_n hx hb dJ9_floorMod_7cf53_0 rfl (lv_at hl 0 rfl) ?_
  refine lv_iload_n hx hb dJ9_floorMod_7cf53_1 rfl (lv_at hl 1 rfl) ?_
  refine z_itrem hx hb dJ9_floorMod_7cf53_2 (by omega) (by omega) (by omega) ?_
  refine lv_istore_n (lv' := [(2, .int (zI ((Int.tmod (x) (d))))), (0, .int (zI (x))), (1, .int (zI (d)))]) hx hb dJ9_floorMod_7cf53_3 rfl hl (by decide) rfl (fun ls hl => ?_)
  refine lv_iload_n hx hb dJ9_floorMod_7cf53_4 rfl (lv_at hl 1 rfl) ?_
  refine lv_iload_n hx hb dJ9_floorMod_7cf53_5 rfl (lv_at hl 2 rfl) ?_
  refine lv_ixor hx hb dJ9_floorMod_7cf53_6 ?_
  refine z_xor_ge (tgt := 18) hx hb dJ9_floorMod_7cf53_7 (by decide) (by omega) (by omega) (fun h7 => ?_) (fun h7 => ?_)
  · skip
    refine lv_iload_n hx hb dJ9_floorMod_7cf53_18 rfl (lv_at hl 0 rfl) ?_
    exact z_iret hx hb hr hlocks (by omega) dJ9_floorMod_7cf53_19
  · skip
    refine lv_iload_n hx hb dJ9_floorMod_7cf53_10 rfl (lv_at hl 0 rfl) ?_
    refine z_if_eq (tgt := 18) hx hb dJ9_floorMod_7cf53_11 (by decide) (by omega) (fun h11 => ?_) (fun h11 => ?_)
    · skip
      refine lv_iload_n hx hb dJ9_floorMod_7cf53_18 rfl (lv_at hl 0 rfl) ?_
      exact z_iret hx hb hr hlocks (by omega) dJ9_floorMod_7cf53_19
    · skip
      refine lv_iload_n hx hb dJ9_floorMod_7cf53_14 rfl (lv_at hl 0 rfl) ?_
      refine lv_iload_n hx hb dJ9_floorMod_7cf53_15 rfl (lv_at hl 2 rfl) ?_
      refine z_iadd hx hb dJ9_floorMod_7cf53_16 ?_
      exact z_iret hx hb hr hlocks (by omega) dJ9_floorMod_7cf53_17

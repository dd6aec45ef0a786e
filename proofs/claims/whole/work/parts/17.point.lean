/-! ===== painting a point: b is what the point has of each ink ===== -/
def PS (P : Int → Int) (pts q : Int) (b : Int → Int) : Int → Int := fun j => if 0 ≤ j ∧ j < 8 * pts ∧ j % pts = q then b (j / pts) else P j
def colP (P : Int → Int) (pts q : Int) : Int → Int := fun k => P (k * pts + q)
theorem kq_dm {pts k q : Int} (hq : 0 ≤ q ∧ q < pts) : (k * pts + q) % pts = q ∧ (k * pts + q) / pts = k := by
  have h1 := qr (a := k) (b := pts) (r := q) (by omega) hq
  rw [show k * pts + q = q + pts * k by rw [Int.mul_comm]; omega]; exact h1
theorem PS_at (P : Int → Int) {pts q k : Int} (b : Int → Int) (hk : 0 ≤ k ∧ k < 8) (hq : 0 ≤ q ∧ q < pts) : PS P pts q b (k * pts + q) = b k := by
  have h1 := kq_dm (k := k) hq
  have h2 := mul_b (a := k) (b := pts) (A := 7) (B := pts) (by omega) (by omega)
  unfold PS; rw [if_pos ⟨by omega, by omega, h1.1⟩, h1.2]
theorem PS_up (P : Int → Int) {pts q k : Int} (b : Int → Int) (v : Int) (hk : 0 ≤ k ∧ k < 8) (hq : 0 ≤ q ∧ q < pts) : zu (PS P pts q b) (k * pts + q) v = PS P pts q (zu b k v) := by
  have h1 := kq_dm (k := k) hq
  have h2 := mul_b (a := k) (b := pts) (A := 7) (B := pts) (by omega) (by omega)
  funext j
  show (if j = k * pts + q then v else (if 0 ≤ j ∧ j < 8 * pts ∧ j % pts = q then b (j / pts) else P j)) = (if 0 ≤ j ∧ j < 8 * pts ∧ j % pts = q then (if j / pts = k then v else b (j / pts)) else P j)
  by_cases e : j = k * pts + q
  · rw [if_pos e, if_pos (by rw [e]; exact ⟨by omega, by omega, h1.1⟩), e, h1.2, if_pos rfl]
  · rw [if_neg e]
    by_cases c : 0 ≤ j ∧ j < 8 * pts ∧ j % pts = q
    · rw [if_pos c, if_pos c, if_neg (fun e2 => e (by have := Int.mul_ediv_add_emod j pts; rw [e2, c.2.2, Int.mul_comm] at this; exact this.symm))]
    · rw [if_neg c, if_neg c]
theorem PS_self (P : Int → Int) {pts q : Int} : PS P pts q (colP P pts q) = P := by
  funext j
  unfold PS colP
  by_cases c : 0 ≤ j ∧ j < 8 * pts ∧ j % pts = q
  · rw [if_pos c]; have := Int.mul_ediv_add_emod j pts; rw [c.2.2, Int.mul_comm] at this; rw [this]
  · rw [if_neg c]
theorem PS_PS (P : Int → Int) {pts q : Int} (b b' : Int → Int) : PS (PS P pts q b) pts q b' = PS P pts q b' := by
  funext j
  by_cases c : 0 ≤ j ∧ j < 8 * pts ∧ j % pts = q
  · unfold PS; rw [if_pos c, if_pos c]
  · unfold PS; rw [if_neg c, if_neg c, if_neg c]
theorem PS_ext (P : Int → Int) {pts q : Int} {b b' : Int → Int} (hp : 0 < pts) (h : ∀ k, 0 ≤ k → k < 8 → b k = b' k) : PS P pts q b = PS P pts q b' := by
  funext j
  unfold PS
  by_cases c : 0 ≤ j ∧ j < 8 * pts ∧ j % pts = q
  · rw [if_pos c, if_pos c]
    refine h _ (Int.ediv_nonneg c.1 (by omega)) ?_
    exact Int.ediv_lt_of_lt_mul hp (by have := c.2.1; omega)
  · rw [if_neg c, if_neg c]
theorem PS_b {P : Int → Int} {pts q : Int} {b : Int → Int} (hp : 0 < pts) (hB : ∀ j, 0 ≤ P j ∧ P j ≤ 255) (hb : ∀ k, 0 ≤ k → k < 8 → 0 ≤ b k ∧ b k ≤ 255) : ∀ j, 0 ≤ PS P pts q b j ∧ PS P pts q b j ≤ 255 := by
  intro j
  unfold PS
  by_cases c : 0 ≤ j ∧ j < 8 * pts ∧ j % pts = q
  · rw [if_pos c]
    exact hb _ (Int.ediv_nonneg c.1 (by omega)) (Int.ediv_lt_of_lt_mul hp (by have := c.2.1; omega))
  · rw [if_neg c]; exact hB j
theorem pgOK_P {w h pts cnt most rch : Int} {M C P P' : Int → Int} (hp : pgOK w h pts cnt most rch M C P) (h9 : ∀ j, 0 ≤ P' j ∧ P' j ≤ 255) : pgOK w h pts cnt most rch M C P' := by
  obtain ⟨a1, a2, a3, a4, a5, a6, a7, a8, a9⟩ := hp
  exact ⟨a1, a2, a3, a4, a5, a6, a7, a8, h9⟩
theorem zsum_congr {f g : Int → Int} : ∀ n : Nat, (∀ k : Int, 0 ≤ k → k < n → f k = g k) → zsum f n = zsum g n := by
  intro n
  induction n with
  | zero => intro _; rfl
  | succ n ih => intro h; show zsum f n + f (n : Int) = zsum g n + g (n : Int); rw [ih (fun k h1 h2 => h k h1 (by omega)), h (n : Int) (by omega) (by omega)]
theorem zsum_ge {f : Int → Int} (hf : ∀ k : Int, 0 ≤ k → k < 8 → 0 ≤ f k) : ∀ n : Nat, n ≤ 8 → (∀ k : Int, 0 ≤ k → k < n → f k ≤ zsum f n) ∧ (∀ k j : Int, 0 ≤ k → k < n → 0 ≤ j → j < n → k ≠ j → f k + f j ≤ zsum f n) ∧ 0 ≤ zsum f n := by
  intro n
  induction n with
  | zero => intro _; exact ⟨fun k h1 h2 => by omega, fun k j h1 h2 => by omega, Int.le_refl 0⟩
  | succ n ih =>
    intro hn
    obtain ⟨i1, i2, i3⟩ := ih (by omega)
    have h0 := hf (n : Int) (by omega) (by omega)
    have e : zsum f (n + 1) = zsum f n + f (n : Int) := rfl
    refine ⟨fun k h1 h2 => ?_, fun k j h1 h2 h3 h4 h5 => ?_, by omega⟩
    · by_cases q : k = (n : Int)
      · rw [q]; omega
      · have := i1 k h1 (by omega); omega
    · by_cases q : k = (n : Int)
      · rw [q] at h5 ⊢; have := i1 j h3 (by omega); omega
      · by_cases q2 : j = (n : Int)
        · rw [q2]; have := i1 k h1 (by omega); omega
        · have := i2 k j h1 (by omega) h3 (by omega) h5; omega
/-- how much goes to black -/
def mvR (b : Int → Int) (ex : Int) : Nat → Int
  | 0 => min ((ex + 1) / 2) (255 - b 3)
  | n + 1 => min (mvR b ex n) (b (n : Int))
theorem mvR_s (b : Int → Int) (ex : Int) {k : Int} (h : 0 ≤ k) : mvR b ex (k + 1).toNat = min (mvR b ex k.toNat) (b k) := by
  rw [toNat_s h]; show min (mvR b ex k.toNat) (b ((k.toNat : Nat) : Int)) = _; rw [toNat_c h]
theorem mvR_b {b : Int → Int} {ex : Int} (hb : ∀ k, 0 ≤ k → k < 8 → 0 ≤ b k ∧ b k ≤ 255) (he : 0 < ex ∧ ex ≤ 3000) : ∀ n : Nat, n ≤ 3 → 0 ≤ mvR b ex n ∧ mvR b ex n ≤ 255 - b 3 := by
  intro n
  induction n with
  | zero => intro _; have := hb 3 (by omega) (by omega); show 0 ≤ min ((ex + 1) / 2) (255 - b 3) ∧ min ((ex + 1) / 2) (255 - b 3) ≤ 255 - b 3; omega
  | succ n ih => intro h; have h1 := ih (by omega); have h2 := hb (n : Int) (by omega) (by omega); show 0 ≤ min (mvR b ex n) (b (n : Int)) ∧ min (mvR b ex n) (b (n : Int)) ≤ 255 - b 3; omega
theorem mvR_3 {b : Int → Int} {ex : Int} : mvR b ex 3 ≤ b 0 ∧ mvR b ex 3 ≤ b 1 ∧ mvR b ex 3 ≤ b 2 := by
  have e : mvR b ex 3 = min (min (min (mvR b ex 0) (b 0)) (b 1)) (b 2) := rfl
  omega
def mvK (b : Int → Int) (t k : Int) : Int → Int := fun j => if 0 ≤ j ∧ j < k then b j - t else b j
theorem mvK_s (b : Int → Int) (t : Int) {k : Int} (h : 0 ≤ k) : zu (mvK b t k) k (b k - t) = mvK b t (k + 1) := by
  funext j; unfold zu mvK
  by_cases e : j = k
  · rw [if_pos e, if_pos (by omega), e]
  · rw [if_neg e]
    by_cases c : 0 ≤ j ∧ j < k
    · rw [if_pos c, if_pos (by omega)]
    · rw [if_neg c, if_neg (by omega)]
theorem mvK_0 (b : Int → Int) (t : Int) : mvK b t 0 = b := by funext j; unfold mvK; rw [if_neg (by omega)]
def mvF (b : Int → Int) (ex : Int) : Int → Int := zu (mvK b (mvR b ex 3) 3) 3 (b 3 + mvR b ex 3)
theorem mvF_b {b : Int → Int} {ex : Int} (hb : ∀ k, 0 ≤ k → k < 8 → 0 ≤ b k ∧ b k ≤ 255) (he : 0 < ex ∧ ex ≤ 3000) : ∀ k, 0 ≤ k → k < 8 → 0 ≤ mvF b ex k ∧ mvF b ex k ≤ 255 := by
  intro k h1 h2
  have h3 := mvR_b hb he 3 (by omega)
  have h4 := mvR_3 (b := b) (ex := ex)
  have h5 := hb k h1 h2
  have h6 := hb 3 (by omega) (by omega)
  unfold mvF zu mvK
  by_cases e : k = 3
  · rw [if_pos e]; omega
  · rw [if_neg e]
    by_cases c : 0 ≤ k ∧ k < 3
    · rw [if_pos c]
      have : k = 0 ∨ k = 1 ∨ k = 2 := by omega
      rcases this with rfl | rfl | rfl <;> omega
    · rw [if_neg c]; exact h5
/-- what the limit makes of the point -/
def shK (b : Int → Int) (rm ot k : Int) : Int → Int := fun j => if 0 ≤ j ∧ j < k ∧ j ≠ 3 then b j * rm / ot else b j
theorem shK_0 (b : Int → Int) (rm ot : Int) : shK b rm ot 0 = b := by funext j; unfold shK; rw [if_neg (by omega)]
theorem shK_s (b : Int → Int) (rm ot : Int) {k : Int} (h : 0 ≤ k) (h3 : k ≠ 3) : zu (shK b rm ot k) k (b k * rm / ot) = shK b rm ot (k + 1) := by
  funext j; unfold zu shK
  by_cases e : j = k
  · rw [if_pos e, if_pos (by omega), e]
  · rw [if_neg e]
    by_cases c : 0 ≤ j ∧ j < k ∧ j ≠ 3
    · rw [if_pos c, if_pos (by omega)]
    · rw [if_neg c, if_neg (by omega)]
theorem shK_n (b : Int → Int) (rm ot : Int) {k : Int} (h : 0 ≤ k) (h3 : k = 3 ∨ b k = 0) : shK b rm ot k = shK b rm ot (k + 1) := by
  funext j; unfold shK
  by_cases c : 0 ≤ j ∧ j < k ∧ j ≠ 3
  · rw [if_pos c, if_pos (by omega)]
  · rw [if_neg c]
    by_cases c2 : 0 ≤ j ∧ j < k + 1 ∧ j ≠ 3
    · have e : j = k := by omega
      rw [if_pos c2, e]
      rcases h3 with h3 | h3
      · omega
      · rw [h3, Int.zero_mul, Int.zero_ediv]
    · rw [if_neg c2]
theorem md_b {x rm ot : Int} (hx : 0 ≤ x ∧ x ≤ 255) (hr : 0 ≤ rm) (ho : rm ≤ ot) : 0 ≤ x * rm / ot ∧ x * rm / ot ≤ 255 := by
  have h1 := Int.mul_nonneg hx.1 hr
  refine ⟨Int.ediv_nonneg h1 (by omega), ?_⟩
  by_cases q : ot = 0
  · rw [q, Int.ediv_zero]; omega
  · have h2 : x * rm ≤ 255 * ot := Int.mul_le_mul hx.2 ho hr (by omega)
    exact Int.ediv_le_of_le_mul (by omega) (by omega)
theorem shK_b {b : Int → Int} {rm ot k : Int} (hb : ∀ k, 0 ≤ k → k < 8 → 0 ≤ b k ∧ b k ≤ 255) (hr : 0 ≤ rm) (ho : rm ≤ ot) : ∀ j, 0 ≤ j → j < 8 → 0 ≤ shK b rm ot k j ∧ shK b rm ot k j ≤ 255 := by
  intro j h1 h2
  unfold shK
  by_cases c : 0 ≤ j ∧ j < k ∧ j ≠ 3
  · rw [if_pos c]; exact md_b (hb j h1 h2) hr ho
  · rw [if_neg c]; exact hb j h1 h2
def shrF (b : Int → Int) (cnt most : Int) : Int → Int := if zsum b cnt.toNat ≤ most then b else zu (shK b (max 0 (most - b 3)) (zsum b cnt.toNat - b 3) cnt) 3 (min (b 3) most)
/-- the colour's bytes come onto the point, ink by ink -/
def pnF (C : Int → Int) (ov : Int) (b : Int → Int) (k : Int) : Int → Int := fun j => if 0 ≤ j ∧ j < k then (if C j < 0 then (if ov = 0 then 0 else b j) else C j) else b j
theorem pnF_0 (C : Int → Int) (ov : Int) (b : Int → Int) : pnF C ov b 0 = b := by funext j; unfold pnF; rw [if_neg (by omega)]
theorem pnF_s (C : Int → Int) (ov : Int) (b : Int → Int) {k v : Int} (h : 0 ≤ k) (hv : v = if C k < 0 then (if ov = 0 then 0 else b k) else C k) : zu (pnF C ov b k) k v = pnF C ov b (k + 1) := by
  funext j; unfold zu pnF
  by_cases e : j = k
  · rw [if_pos e, if_pos (by omega), e, hv]
  · rw [if_neg e]
    by_cases c : 0 ≤ j ∧ j < k
    · rw [if_pos c, if_pos (show 0 ≤ j ∧ j < k + 1 by omega)]
    · rw [if_neg c, if_neg (show ¬ (0 ≤ j ∧ j < k + 1) by omega)]
theorem pnF_n (C : Int → Int) (ov : Int) (b : Int → Int) {k : Int} (h : 0 ≤ k) (h1 : C k < 0) (h2 : ov ≠ 0) : pnF C ov b k = pnF C ov b (k + 1) := by
  funext j; unfold pnF
  by_cases c : 0 ≤ j ∧ j < k
  · rw [if_pos c, if_pos (show 0 ≤ j ∧ j < k + 1 by omega)]
  · rw [if_neg c]
    by_cases c2 : 0 ≤ j ∧ j < k + 1
    · have e : j = k := by omega
      rw [if_pos c2, e, if_pos h1, if_neg h2]
    · rw [if_neg c2]
theorem pnF_b {C b : Int → Int} {ov k : Int} (hC : ∀ j, -1 ≤ C j ∧ C j ≤ 255) (hb : ∀ k, 0 ≤ k → k < 8 → 0 ≤ b k ∧ b k ≤ 255) : ∀ j, 0 ≤ j → j < 8 → 0 ≤ pnF C ov b k j ∧ pnF C ov b k j ≤ 255 := by
  intro j h1 h2
  have := hb j h1 h2; have := hC j
  unfold pnF; split
  · split
    · split <;> omega
    · omega
  · omega
def ptF (C : Int → Int) (ov cnt most : Int) (b : Int → Int) : Int → Int := if zsum (pnF C ov b cnt) cnt.toNat ≤ most then pnF C ov b cnt else shrF (mvF (pnF C ov b cnt) (zsum (pnF C ov b cnt) cnt.toNat - most)) cnt most

set_option maxHeartbeats 4000000 in
set_option maxRecDepth 100000 in
theorem c_X3_moveToBlack (l : Launch) (G : zG) (pg ik mx co pa : Nat) (w h pts cnt most rch : Int) (M C P : Int → Int) (q ex : Int) (hp : pgOK w h pts cnt most rch M C P) (hq : 0 ≤ q ∧ q < pts) (hex : 0 < ex ∧ ex ≤ 3000) : zWv l yX3_moveToBlack cX3_moveToBlack 5 { frames := 1, cells := 0, slots := 0, locals := 22 } G [.ref pg, .int (zI (q)), .int (zI (ex))] (pgL G pg ik mx co pa w h pts cnt most rch M C P) (S := Unit) (fun u => True) (fun u => pgL G pg ik mx co pa w h pts cnt most rch M C (PS P pts q (mvF (colP P pts q) ex))) := by
  intro sz
  refine Met.ofW (cc := cX3_moveToBlack) (maxL := 5) (ret := none) (by decide) rfl ?_
  intro p e s m args below meth c s₁ B hml hv
  obtain ⟨rfl, hsz, hP, hK, hD0⟩ := hv
  have hx := B.exec
  have hb := B.bytes
  have hr := B.returns
  have hT : ∀ w ∈ TB, w.before _ s = true := fun w h => atoms_spec (ws := Cond.code yX3_moveToBlack cX3_moveToBlack 5 none :: TB) B.pre w (List.mem_cons_of_mem _ h)
  have hown : s.vm.findClass RX3 = some m.cls := findClass_of_methodNamed B.named
  have hlocks := B.notSynchronized
  subst hsz
  have hD := hD0.self (sz := s.heap.size)
  generalize hAe : va_A (pgL G pg ik mx co pa w h pts cnt most rch M C P) s.heap.size = A at hD ⊢
  have hA : ∀ q : Nat, s.heap.size ≤ q → A q := fun q h => by rw [← hAe]; exact Or.inr h
  have hS : va_S A s.heap s.heap [] := va_S.rf
  have hP : zP G (pgL G pg ik mx co pa w h pts cnt most rch M C P) s.heap := hP
  have hD : va_D A (pgL G pg ik mx co pa w h pts cnt most rch M C P) := hD
  have hl := lv_entry ([.ref pg, .int (zI (q)), .int (zI (ex))]) (n := 5) (Nat.le_of_ble_eq_true rfl)
  rw [lg_entry_eq]
  generalize (lg_sl ([.ref pg, .int (zI (q)), .int (zI (ex))]) ++ List.replicate (5 - (lg_sl ([.ref pg, .int (zI (q)), .int (zI (ex))])).length) Slot.unset).toArray = ls at hl ⊢
  have hl : lv_has ls 5 [(0, .ref pg), (1, .int (zI (q))), (2, .int (zI (ex)))] := hl
  obtain ⟨hw, hh, hpts, hcnt, hmost, hrch, hM, hC, hB⟩ := id hp
  have hpt := pgOK_pts hp
  have hcb : ∀ k, 0 ≤ k → k < 8 → 0 ≤ (colP P pts q) k ∧ (colP P pts q) k ≤ 255 := fun k _ _ => hB _
  have hc3 := hcb 3 (by omega) (by omega)
  have hc3' : (colP P pts q) 3 = P (3 * pts + q) := rfl
  refine lv_iload_n hx hb dX3_moveToBlack_0 rfl (lv_at hl 2 rfl) ?_
  refine z_iconst hx hb dX3_moveToBlack_1 ?_
  refine z_iadd hx hb dX3_moveToBlack_2 ?_
  refine z_iconst hx hb dX3_moveToBlack_3 ?_
  refine z_idiv hx hb dX3_moveToBlack_4 (by omega) (by omega) ?_
  refine z_sipush hx hb dX3_moveToBlack_5 (by decide +kernel) ?_
  refine lv_aload_n hx hb dX3_moveToBlack_8 rfl (lv_at hl 0 rfl) ?_
  refine z_iconst hx hb dX3_moveToBlack_9 ?_
  refine lv_iload_n hx hb dX3_moveToBlack_10 rfl (lv_at hl 1 rfl) ?_
  refine z_callV (q0 := 0) (G := G) (As := [.int (zI (3)), .int (zI (q))]) (rest := [.int (zI (255)), .int (zI (((ex + 1) / 2)))]) hx hb hml hown hT hK (c_X3_byteAt l G pg ik mx co pa w h pts cnt most rch M C P (3) (q) hp (by omega) (by omega)) kc_X3_38 ⟨Nat.le_of_ble_eq_true rfl, Nat.le_of_ble_eq_true rfl⟩ ⟨rfl, rfl⟩ ⟨Nat.le_of_ble_eq_true rfl, Nat.le_of_ble_eq_true rfl⟩ hP rfl rfl rfl rfl hl.1 rfl (Nat.le_of_ble_eq_true rfl) dX3_moveToBlack_11 ?_
  refine z_isub hx hb dX3_moveToBlack_14 ?_
  refine z_mmin hx hb hml hl.1 hown hT kc_X3_65 ⟨Nat.le_of_ble_eq_true rfl, Nat.le_of_ble_eq_true rfl⟩ ⟨Nat.le_of_ble_eq_true rfl, Nat.le_of_ble_eq_true rfl⟩ (by omega) (by omega) dX3_moveToBlack_15 ?_
  refine z_top (mvR (colP P pts q) ex 0) (by show min ((ex + 1) / 2) (255 - P (3 * pts + q)) = min ((ex + 1) / 2) (255 - P (3 * pts + q)); rfl) ?_
  refine lv_istore_n (lv' := [(3, .int (zI (mvR (colP P pts q) ex 0))), (0, .ref pg), (1, .int (zI (q))), (2, .int (zI (ex)))]) hx hb dX3_moveToBlack_18 rfl hl (by decide) rfl (fun ls hl => ?_)
  refine z_iconst hx hb dX3_moveToBlack_19 ?_
  refine lv_istore (lv' := [(4, .int (zI (0))), (3, .int (zI (mvR (colP P pts q) ex 0))), (0, .ref pg), (1, .int (zI (q))), (2, .int (zI (ex)))]) hx hb dX3_moveToBlack_20 hl (by decide) rfl (fun ls hl => ?_)
  refine z_loopH (σ := Int × Array Slot) (fun zq => F0 m 22 (zq.2) []) (fun zq => (0 ≤ zq.1 ∧ zq.1 ≤ 3) ∧ lv_has (zq.2) 5 [(0, .ref pg), (1, .int (zI (q))), (2, .int (zI (ex))), (3, .int (zI (mvR (colP P pts q) ex zq.1.toNat))), (4, .int (zI (zq.1)))]) (fun zq => pgL G pg ik mx co pa w h pts cnt most rch M C P) (fun zq => (3 - zq.1).toNat) ?_ (0, ls) ⟨by refine ⟨?_, ?_⟩ <;> omega, lv_sub hl [2, 3, 4, 1, 0] rfl⟩ hP hD hS
  intro zq H locs hq hP hD hS ih
  obtain ⟨k, ls⟩ := zq
  obtain ⟨hI, hl⟩ := hq
  try dsimp only at hI hl ih hP hD ⊢
  have hP : zP G (pgL G pg ik mx co pa w h pts cnt most rch M C P) H := hP
  have hD : va_D A (pgL G pg ik mx co pa w h pts cnt most rch M C P) := hD
  have ih22 := ih
  refine lv_iload hx hb dX3_moveToBlack_22 (lv_at hl 4 rfl) ?_
  refine z_iconst hx hb dX3_moveToBlack_24 ?_
  refine z_icmp_ge (tgt := 46) hx hb dX3_moveToBlack_25 (by decide) (by omega) (by omega) (fun h25 => ?_) (fun h25 => ?_)
  · skip
    have hk3 : k = 3 := by omega
    rw [hk3] at hl
    have hmb := mvR_b hcb hex 3 (by omega)
    have hm3 := mvR_3 (b := (colP P pts q)) (ex := ex)
    have hl : lv_has ls 5 [(0, .ref pg), (1, .int (zI (q))), (2, .int (zI (ex))), (3, .int (zI ((mvR (colP P pts q) ex 3)))), (4, .int (zI (3)))] := hl
    refine z_iconst hx hb dX3_moveToBlack_46 ?_
    refine lv_istore (lv' := [(4, .int (zI (0))), (0, .ref pg), (1, .int (zI (q))), (2, .int (zI (ex))), (3, .int (zI ((mvR (colP P pts q) ex 3))))]) hx hb dX3_moveToBlack_47 hl (by decide) rfl (fun ls hl => ?_)
    rw [show P = PS P pts q (mvK (colP P pts q) (mvR (colP P pts q) ex 3) 0) by rw [mvK_0, PS_self]] at hP hD
    refine z_loopH (σ := Int × Array Slot) (fun zq => F0 m 49 (zq.2) []) (fun zq => (0 ≤ zq.1 ∧ zq.1 ≤ 3) ∧ lv_has (zq.2) 5 [(0, .ref pg), (1, .int (zI (q))), (2, .int (zI (ex))), (3, .int (zI ((mvR (colP P pts q) ex 3)))), (4, .int (zI (zq.1)))]) (fun zq => pgL G pg ik mx co pa w h pts cnt most rch M C (PS P pts q (mvK (colP P pts q) (mvR (colP P pts q) ex 3) zq.1))) (fun zq => (3 - zq.1).toNat) ?_ (0, ls) ⟨by refine ⟨?_, ?_⟩ <;> omega, lv_sub hl [1, 2, 3, 4, 0] rfl⟩ hP hD hS
    intro zq H locs hq hP hD hS ih
    obtain ⟨k2, ls⟩ := zq
    obtain ⟨hI, hl⟩ := hq
    try dsimp only at hI hl ih hP hD ⊢
    have hP : zP G (pgL G pg ik mx co pa w h pts cnt most rch M C (PS P pts q (mvK (colP P pts q) (mvR (colP P pts q) ex 3) k2))) H := hP
    have hD : va_D A (pgL G pg ik mx co pa w h pts cnt most rch M C (PS P pts q (mvK (colP P pts q) (mvR (colP P pts q) ex 3) k2))) := hD
    have ih49 := ih
    refine lv_iload hx hb dX3_moveToBlack_49 (lv_at hl 4 rfl) ?_
    refine z_iconst hx hb dX3_moveToBlack_51 ?_
    refine z_icmp_ge (tgt := 79) hx hb dX3_moveToBlack_52 (by decide) (by omega) (by omega) (fun h52 => ?_) (fun h52 => ?_)
    · skip
      have hk4 : k2 = 3 := by omega
      rw [hk4] at hP hD
      have hix := pg_ix hpt (k := 3) (q := q) (by omega) hq
      refine lv_aload_n hx hb dX3_moveToBlack_79 rfl (lv_at hl 0 rfl) ?_
      refine gf_X3_34 hx hb hT hown hK hP 0 rfl rfl dX3_moveToBlack_80 ?_
      refine z_iconst hx hb dX3_moveToBlack_83 ?_
      refine lv_aload_n hx hb dX3_moveToBlack_84 rfl (lv_at hl 0 rfl) ?_
      refine gf_X3_31 hx hb hT hown hK hP 0 rfl rfl dX3_moveToBlack_85 ?_
      refine z_imul hx hb dX3_moveToBlack_88 ?_
      refine lv_iload_n hx hb dX3_moveToBlack_89 rfl (lv_at hl 1 rfl) ?_
      refine z_iadd hx hb dX3_moveToBlack_90 ?_
      refine lv_dup2_11 hx hb dX3_moveToBlack_91 rfl rfl ?_
      refine z_iald hx hb hK hP 2 rfl (⟨by omega, by omega, by omega⟩) dX3_moveToBlack_92 ?_
      refine z_top (((colP P pts q) 3)) (by rw [PS_at _ _ (by omega) hq]; unfold mvK; rw [if_neg (by omega)]) ?_
      refine lv_iload_n hx hb dX3_moveToBlack_93 rfl (lv_at hl 3 rfl) ?_
      refine z_iadd hx hb dX3_moveToBlack_94 ?_
      refine z_iast (ws' := pgL G pg ik mx co pa w h pts cnt most rch M C (zu (PS P pts q (mvK (colP P pts q) (mvR (colP P pts q) ex 3) 3)) ((3 * pts) + q) (((colP P pts q) 3) + (mvR (colP P pts q) ex 3)))) hx hb hK hP hD hS 2 rfl (⟨by omega, by omega, by omega⟩) dX3_moveToBlack_95 rfl (fun H locs hP hD hS => ?_)
      rw [show (zu (PS P pts q (mvK (colP P pts q) (mvR (colP P pts q) ex 3) 3)) ((3 * pts) + q) (((colP P pts q) 3) + (mvR (colP P pts q) ex 3))) = (PS P pts q (mvF (colP P pts q) ex)) from by rw [PS_up _ _ _ (by omega) hq]; rfl] at hP hD
      exact z_wrv () hx hb hr hlocks hK hP hD hS (trivial) dX3_moveToBlack_96
    · skip
      have hix := pg_ix hpt (k := k2) (q := q) (by omega) hq
      refine lv_aload_n hx hb dX3_moveToBlack_55 rfl (lv_at hl 0 rfl) ?_
      refine gf_X3_34 hx hb hT hown hK hP 0 rfl rfl dX3_moveToBlack_56 ?_
      refine lv_iload hx hb dX3_moveToBlack_59 (lv_at hl 4 rfl) ?_
      refine lv_aload_n hx hb dX3_moveToBlack_61 rfl (lv_at hl 0 rfl) ?_
      refine gf_X3_31 hx hb hT hown hK hP 0 rfl rfl dX3_moveToBlack_62 ?_
      refine z_imul hx hb dX3_moveToBlack_65 ?_
      refine lv_iload_n hx hb dX3_moveToBlack_66 rfl (lv_at hl 1 rfl) ?_
      refine z_iadd hx hb dX3_moveToBlack_67 ?_
      refine lv_dup2_11 hx hb dX3_moveToBlack_68 rfl rfl ?_
      refine z_iald hx hb hK hP 2 rfl (⟨by omega, by omega, by omega⟩) dX3_moveToBlack_69 ?_
      refine z_top (((colP P pts q) k2)) (by rw [PS_at _ _ (by omega) hq]; unfold mvK; rw [if_neg (by omega)]) ?_
      refine lv_iload_n hx hb dX3_moveToBlack_70 rfl (lv_at hl 3 rfl) ?_
      refine z_isub hx hb dX3_moveToBlack_71 ?_
      refine z_iast (ws' := pgL G pg ik mx co pa w h pts cnt most rch M C (zu (PS P pts q (mvK (colP P pts q) (mvR (colP P pts q) ex 3) k2)) ((k2 * pts) + q) (((colP P pts q) k2) - (mvR (colP P pts q) ex 3)))) hx hb hK hP hD hS 2 rfl (⟨by omega, by omega, by omega⟩) dX3_moveToBlack_72 rfl (fun H locs hP hD hS => ?_)
      rw [show (zu (PS P pts q (mvK (colP P pts q) (mvR (colP P pts q) ex 3) k2)) ((k2 * pts) + q) (((colP P pts q) k2) - (mvR (colP P pts q) ex 3))) = (PS P pts q (mvK (colP P pts q) (mvR (colP P pts q) ex 3) (k2 + 1))) from by rw [PS_up _ _ _ (by omega) hq, mvK_s _ _ (by omega)]] at hP hD
      refine lv_iinc (v := zI (k2 + (1))) (lv' := [(4, .int (zI (k2 + (1)))), (0, .ref pg), (1, .int (zI (q))), (2, .int (zI (ex))), (3, .int (zI ((mvR (colP P pts q) ex 3))))]) hx hb dX3_moveToBlack_73 hl (k := 4) rfl (zI_add _ _) (by decide) rfl (fun ls hl => ?_)
      refine z_goto (tgt := 49) hx hb dX3_moveToBlack_76 (by decide) ?_
      exact ih49 (k2 + 1, ls) _ _ ⟨by refine ⟨?_, ?_⟩ <;> omega, lv_sub hl [1, 2, 3, 4, 0] rfl⟩ (by omega) hP hD hS
  · skip
    have hmb := mvR_b hcb hex k.toNat (by omega)
    have hck := hcb k (by omega) (by omega)
    have hck' : (colP P pts q) k = P (k * pts + q) := rfl
    refine lv_iload_n hx hb dX3_moveToBlack_28 rfl (lv_at hl 3 rfl) ?_
    refine lv_aload_n hx hb dX3_moveToBlack_29 rfl (lv_at hl 0 rfl) ?_
    refine lv_iload hx hb dX3_moveToBlack_30 (lv_at hl 4 rfl) ?_
    refine lv_iload_n hx hb dX3_moveToBlack_32 rfl (lv_at hl 1 rfl) ?_
    refine z_callV (q0 := 0) (G := G) (As := [.int (zI (k)), .int (zI (q))]) (rest := [.int (zI (mvR (colP P pts q) ex k.toNat))]) hx hb hml hown hT hK (c_X3_byteAt l G pg ik mx co pa w h pts cnt most rch M C P (k) (q) hp (by omega) (by omega)) kc_X3_38 ⟨Nat.le_of_ble_eq_true rfl, Nat.le_of_ble_eq_true rfl⟩ ⟨rfl, rfl⟩ ⟨Nat.le_of_ble_eq_true rfl, Nat.le_of_ble_eq_true rfl⟩ hP rfl rfl rfl rfl hl.1 rfl (Nat.le_of_ble_eq_true rfl) dX3_moveToBlack_33 ?_
    refine z_mmin hx hb hml hl.1 hown hT kc_X3_65 ⟨Nat.le_of_ble_eq_true rfl, Nat.le_of_ble_eq_true rfl⟩ ⟨Nat.le_of_ble_eq_true rfl, Nat.le_of_ble_eq_true rfl⟩ (by omega) (by omega) dX3_moveToBlack_36 ?_
    refine z_top (mvR (colP P pts q) ex (k + 1).toNat) ((mvR_s (colP P pts q) ex (by omega)).symm) ?_
    refine lv_istore_n (lv' := [(3, .int (zI (mvR (colP P pts q) ex (k + 1).toNat))), (0, .ref pg), (1, .int (zI (q))), (2, .int (zI (ex))), (4, .int (zI (k)))]) hx hb dX3_moveToBlack_39 rfl hl (by decide) rfl (fun ls hl => ?_)
    refine lv_iinc (v := zI (k + (1))) (lv' := [(4, .int (zI (k + (1)))), (3, .int (zI (mvR (colP P pts q) ex (k + 1).toNat))), (0, .ref pg), (1, .int (zI (q))), (2, .int (zI (ex)))]) hx hb dX3_moveToBlack_40 hl (k := 4) rfl (zI_add _ _) (by decide) rfl (fun ls hl => ?_)
    refine z_goto (tgt := 22) hx hb dX3_moveToBlack_43 (by decide) ?_
    exact ih22 (k + 1, ls) _ _ ⟨by refine ⟨?_, ?_⟩ <;> omega, lv_sub hl [2, 3, 4, 1, 0] rfl⟩ (by omega) hP hD hS

set_option maxHeartbeats 4000000 in
set_option maxRecDepth 100000 in
theorem c_X3_shrinkToLimit (l : Launch) (G : zG) (pg ik mx co pa : Nat) (w h pts cnt most rch : Int) (M C P : Int → Int) (q : Int) (hp : pgOK w h pts cnt most rch M C P) (hq : 0 ≤ q ∧ q < pts) : zWv l yX3_shrinkToLimit cX3_shrinkToLimit 7 { frames := 2, cells := 0, slots := 0, locals := 45 } G [.ref pg, .int (zI (q))] (pgL G pg ik mx co pa w h pts cnt most rch M C P) (S := Unit) (fun u => True) (fun u => pgL G pg ik mx co pa w h pts cnt most rch M C (PS P pts q (shrF (colP P pts q) cnt most))) := by
  intro sz
  refine Met.ofW (cc := cX3_shrinkToLimit) (maxL := 7) (ret := none) (by decide) rfl ?_
  intro p e s m args below meth c s₁ B hml hv
  obtain ⟨rfl, hsz, hP, hK, hD0⟩ := hv
  have hx := B.exec
  have hb := B.bytes
  have hr := B.returns
  have hT : ∀ w ∈ TB, w.before _ s = true := fun w h => atoms_spec (ws := Cond.code yX3_shrinkToLimit cX3_shrinkToLimit 7 none :: TB) B.pre w (List.mem_cons_of_mem _ h)
  have hown : s.vm.findClass RX3 = some m.cls := findClass_of_methodNamed B.named
  have hlocks := B.notSynchronized
  subst hsz
  have hD := hD0.self (sz := s.heap.size)
  generalize hAe : va_A (pgL G pg ik mx co pa w h pts cnt most rch M C P) s.heap.size = A at hD ⊢
  have hA : ∀ q : Nat, s.heap.size ≤ q → A q := fun q h => by rw [← hAe]; exact Or.inr h
  have hS : va_S A s.heap s.heap [] := va_S.rf
  have hP : zP G (pgL G pg ik mx co pa w h pts cnt most rch M C P) s.heap := hP
  have hD : va_D A (pgL G pg ik mx co pa w h pts cnt most rch M C P) := hD
  have hl := lv_entry ([.ref pg, .int (zI (q))]) (n := 7) (Nat.le_of_ble_eq_true rfl)
  rw [lg_entry_eq]
  generalize (lg_sl ([.ref pg, .int (zI (q))]) ++ List.replicate (7 - (lg_sl ([.ref pg, .int (zI (q))])).length) Slot.unset).toArray = ls at hl ⊢
  have hl : lv_has ls 7 [(0, .ref pg), (1, .int (zI (q)))] := hl
  obtain ⟨hw, hh, hpts, hcnt, hmost, hrch, hM, hC, hB⟩ := id hp
  have hpt := pgOK_pts hp
  have hcb : ∀ k, 0 ≤ k → k < 8 → 0 ≤ (colP P pts q) k ∧ (colP P pts q) k ≤ 255 := fun k _ _ => hB _
  have hc3 := hcb 3 (by omega) (by omega)
  have hsb := zsum_b (f := (colP P pts q)) (B := 255) (fun j => hB _) cnt.toNat
  have hcc : ((cnt.toNat : Nat) : Int) = cnt := by omega
  obtain ⟨hg1, hg2, hg3⟩ := zsum_ge (f := (colP P pts q)) (fun k h1 h2 => (hcb k h1 h2).1) cnt.toNat (by omega)
  have hg4 := hg1 3 (by omega) (by omega)
  have hcc2 : 255 * ((cnt.toNat : Nat) : Int) ≤ 2040 := by omega
  refine lv_aload_n hx hb dX3_shrinkToLimit_0 rfl (lv_at hl 0 rfl) ?_
  refine lv_iload_n hx hb dX3_shrinkToLimit_1 rfl (lv_at hl 1 rfl) ?_
  refine z_callV (q0 := 0) (G := G) (As := [.int (zI (q))]) (rest := []) hx hb hml hown hT hK (c_X3_sumAt l G pg ik mx co pa w h pts cnt most rch M C P (q) hp (by omega)) kc_X3_53 ⟨Nat.le_of_ble_eq_true rfl, Nat.le_of_ble_eq_true rfl⟩ ⟨rfl, rfl⟩ ⟨Nat.le_of_ble_eq_true rfl, Nat.le_of_ble_eq_true rfl⟩ hP rfl rfl rfl rfl hl.1 rfl (Nat.le_of_ble_eq_true rfl) dX3_shrinkToLimit_2 ?_
  refine z_top ((zsum (colP P pts q) cnt.toNat)) (rfl) ?_
  refine lv_istore_n (lv' := [(2, .int (zI ((zsum (colP P pts q) cnt.toNat)))), (0, .ref pg), (1, .int (zI (q)))]) hx hb dX3_shrinkToLimit_5 rfl hl (by decide) rfl (fun ls hl => ?_)
  refine lv_iload_n hx hb dX3_shrinkToLimit_6 rfl (lv_at hl 0 rfl) ?_
  refine lv_aload_n hx hb dX3_shrinkToLimit_7 rfl (lv_at hl 1 rfl) ?_
  refine gf_X3_18 hx hb hT hown hK hP 0 rfl rfl dX3_shrinkToLimit_8 ?_
  refine z_icmp_gt (tgt := 15) hx hb dX3_shrinkToLimit_11 (by decide) (by omega) (by omega) (fun h11 => ?_) (fun h11 => ?_)
  · skip
    refine lv_aload_n hx hb dX3_shrinkToLimit_15 rfl (lv_at hl 1 rfl) ?_
    refine z_iconst hx hb dX3_shrinkToLimit_16 ?_
    refine lv_iload_n hx hb dX3_shrinkToLimit_17 rfl (lv_at hl 2 rfl) ?_
    refine z_callV (q0 := 0) (G := G) (As := [.int (zI (3)), .int (zI (q))]) (rest := []) hx hb hml hown hT hK (c_X3_byteAt l G pg ik mx co pa w h pts cnt most rch M C P (3) (q) hp (by omega) (by omega)) kc_X3_38 ⟨Nat.le_of_ble_eq_true rfl, Nat.le_of_ble_eq_true rfl⟩ ⟨rfl, rfl⟩ ⟨Nat.le_of_ble_eq_true rfl, Nat.le_of_ble_eq_true rfl⟩ hP rfl rfl rfl rfl hl.1 rfl (Nat.le_of_ble_eq_true rfl) dX3_shrinkToLimit_18 ?_
    refine z_top (((colP P pts q) 3)) (rfl) ?_
    refine lv_istore_n (lv' := [(3, .int (zI (((colP P pts q) 3)))), (2, .int (zI ((zsum (colP P pts q) cnt.toNat)))), (0, .ref pg), (1, .int (zI (q)))]) hx hb dX3_shrinkToLimit_21 rfl hl (by decide) rfl (fun ls hl => ?_)
    refine z_iconst hx hb dX3_shrinkToLimit_22 ?_
    refine lv_aload_n hx hb dX3_shrinkToLimit_23 rfl (lv_at hl 2 rfl) ?_
    refine gf_X3_18 hx hb hT hown hK hP 0 rfl rfl dX3_shrinkToLimit_24 ?_
    refine lv_iload_n hx hb dX3_shrinkToLimit_27 rfl (lv_at hl 0 rfl) ?_
    refine z_isub hx hb dX3_shrinkToLimit_28 ?_
    refine z_mmax hx hb hml hl.1 hown hT kc_X3_42 ⟨Nat.le_of_ble_eq_true rfl, Nat.le_of_ble_eq_true rfl⟩ ⟨Nat.le_of_ble_eq_true rfl, Nat.le_of_ble_eq_true rfl⟩ (by omega) (by omega) dX3_shrinkToLimit_29 ?_
    have hrm : 0 ≤ (max 0 (most - (colP P pts q) 3)) ∧ (max 0 (most - (colP P pts q) 3)) ≤ (zsum (colP P pts q) cnt.toNat - (colP P pts q) 3) ∧ (max 0 (most - (colP P pts q) 3)) ≤ 2040 := by omega
    refine lv_istore (lv' := [(4, .int (zI ((max 0 (most - ((colP P pts q) 3)))))), (3, .int (zI (((colP P pts q) 3)))), (2, .int (zI ((zsum (colP P pts q) cnt.toNat)))), (0, .ref pg), (1, .int (zI (q)))]) hx hb dX3_shrinkToLimit_32 hl (by decide) rfl (fun ls hl => ?_)
    refine lv_iload_n hx hb dX3_shrinkToLimit_34 rfl (lv_at hl 2 rfl) ?_
    refine lv_iload_n hx hb dX3_shrinkToLimit_35 rfl (lv_at hl 1 rfl) ?_
    refine z_isub hx hb dX3_shrinkToLimit_36 ?_
    refine lv_istore (lv' := [(5, .int (zI (((zsum (colP P pts q) cnt.toNat) - ((colP P pts q) 3))))), (4, .int (zI ((max 0 (most - ((colP P pts q) 3)))))), (3, .int (zI (((colP P pts q) 3)))), (2, .int (zI ((zsum (colP P pts q) cnt.toNat)))), (0, .ref pg), (1, .int (zI (q)))]) hx hb dX3_shrinkToLimit_37 hl (by decide) rfl (fun ls hl => ?_)
    refine z_iconst hx hb dX3_shrinkToLimit_39 ?_
    refine lv_istore (lv' := [(6, .int (zI (0))), (5, .int (zI (((zsum (colP P pts q) cnt.toNat) - ((colP P pts q) 3))))), (4, .int (zI ((max 0 (most - ((colP P pts q) 3)))))), (3, .int (zI (((colP P pts q) 3)))), (2, .int (zI ((zsum (colP P pts q) cnt.toNat)))), (0, .ref pg), (1, .int (zI (q)))]) hx hb dX3_shrinkToLimit_40 hl (by decide) rfl (fun ls hl => ?_)
    rw [show P = PS P pts q (shK (colP P pts q) (max 0 (most - (colP P pts q) 3)) (zsum (colP P pts q) cnt.toNat - (colP P pts q) 3) 0) by rw [shK_0, PS_self]] at hP hD
    refine z_loopH (σ := Int × Array Slot) (fun zq => F0 m 42 (zq.2) []) (fun zq => (0 ≤ zq.1 ∧ zq.1 ≤ cnt) ∧ lv_has (zq.2) 7 [(0, .ref pg), (1, .int (zI (q))), (2, .int (zI ((zsum (colP P pts q) cnt.toNat)))), (3, .int (zI (((colP P pts q) 3)))), (4, .int (zI ((max 0 (most - (colP P pts q) 3))))), (5, .int (zI ((zsum (colP P pts q) cnt.toNat - (colP P pts q) 3)))), (6, .int (zI (zq.1)))]) (fun zq => pgL G pg ik mx co pa w h pts cnt most rch M C (PS P pts q (shK (colP P pts q) (max 0 (most - (colP P pts q) 3)) (zsum (colP P pts q) cnt.toNat - (colP P pts q) 3) zq.1))) (fun zq => (cnt - zq.1).toNat) ?_ (0, ls) ⟨by refine ⟨?_, ?_⟩ <;> omega, lv_sub hl [5, 6, 4, 3, 2, 1, 0] rfl⟩ hP hD hS
    intro zq H locs hq hP hD hS ih
    obtain ⟨k, ls⟩ := zq
    obtain ⟨hI, hl⟩ := hq
    try dsimp only at hI hl ih hP hD ⊢
    have hP : zP G (pgL G pg ik mx co pa w h pts cnt most rch M C (PS P pts q (shK (colP P pts q) (max 0 (most - (colP P pts q) 3)) (zsum (colP P pts q) cnt.toNat - (colP P pts q) 3) k))) H := hP
    have hD : va_D A (pgL G pg ik mx co pa w h pts cnt most rch M C (PS P pts q (shK (colP P pts q) (max 0 (most - (colP P pts q) 3)) (zsum (colP P pts q) cnt.toNat - (colP P pts q) 3) k))) := hD
    have ih42 := ih
    refine lv_iload hx hb dX3_shrinkToLimit_42 (lv_at hl 6 rfl) ?_
    refine lv_aload_n hx hb dX3_shrinkToLimit_44 rfl (lv_at hl 0 rfl) ?_
    refine gf_X3_14 hx hb hT hown hK hP 0 rfl rfl dX3_shrinkToLimit_45 ?_
    refine gf_X3_47 hx hb hT hown hK hP 1 rfl rfl dX3_shrinkToLimit_48 ?_
    refine z_icmp_ge (tgt := 98) hx hb dX3_shrinkToLimit_51 (by decide) (by omega) (by omega) (fun h51 => ?_) (fun h51 => ?_)
    · skip
      have hk4 : k = cnt := by omega
      rw [hk4] at hP hD
      have hix := pg_ix hpt (k := 3) (q := q) (by omega) hq
      refine lv_aload_n hx hb dX3_shrinkToLimit_98 rfl (lv_at hl 0 rfl) ?_
      refine gf_X3_34 hx hb hT hown hK hP 0 rfl rfl dX3_shrinkToLimit_99 ?_
      refine z_iconst hx hb dX3_shrinkToLimit_102 ?_
      refine lv_aload_n hx hb dX3_shrinkToLimit_103 rfl (lv_at hl 0 rfl) ?_
      refine gf_X3_31 hx hb hT hown hK hP 0 rfl rfl dX3_shrinkToLimit_104 ?_
      refine z_imul hx hb dX3_shrinkToLimit_107 ?_
      refine lv_iload_n hx hb dX3_shrinkToLimit_108 rfl (lv_at hl 1 rfl) ?_
      refine z_iadd hx hb dX3_shrinkToLimit_109 ?_
      refine lv_iload_n hx hb dX3_shrinkToLimit_110 rfl (lv_at hl 3 rfl) ?_
      refine lv_aload_n hx hb dX3_shrinkToLimit_111 rfl (lv_at hl 0 rfl) ?_
      refine gf_X3_18 hx hb hT hown hK hP 0 rfl rfl dX3_shrinkToLimit_112 ?_
      refine z_mmin hx hb hml hl.1 hown hT kc_X3_65 ⟨Nat.le_of_ble_eq_true rfl, Nat.le_of_ble_eq_true rfl⟩ ⟨Nat.le_of_ble_eq_true rfl, Nat.le_of_ble_eq_true rfl⟩ (by omega) (by omega) dX3_shrinkToLimit_115 ?_
      refine z_iast (ws' := pgL G pg ik mx co pa w h pts cnt most rch M C (zu (PS P pts q (shK (colP P pts q) (max 0 (most - (colP P pts q) 3)) (zsum (colP P pts q) cnt.toNat - (colP P pts q) 3) cnt)) ((3 * pts) + q) (min ((colP P pts q) 3) most))) hx hb hK hP hD hS 2 rfl (⟨by omega, by omega, by omega⟩) dX3_shrinkToLimit_118 rfl (fun H locs hP hD hS => ?_)
      rw [show (zu (PS P pts q (shK (colP P pts q) (max 0 (most - (colP P pts q) 3)) (zsum (colP P pts q) cnt.toNat - (colP P pts q) 3) cnt)) ((3 * pts) + q) (min ((colP P pts q) 3) most)) = (PS P pts q (shrF (colP P pts q) cnt most)) from by rw [PS_up _ _ _ (by omega) hq]; unfold shrF; rw [if_neg (by omega)]] at hP hD
      exact z_wrv () hx hb hr hlocks hK hP hD hS (trivial) dX3_shrinkToLimit_119
    · skip
      have hck := hcb k (by omega) (by omega)
      have hg5 : k ≠ 3 → (colP P pts q) k + (colP P pts q) 3 ≤ zsum (colP P pts q) cnt.toNat := fun h9 => hg2 k 3 (by omega) (by omega) (by omega) (by omega) h9
      have hix := pg_ix hpt (k := k) (q := q) (by omega) hq
      refine lv_iload hx hb dX3_shrinkToLimit_54 (lv_at hl 6 rfl) ?_
      refine z_iconst hx hb dX3_shrinkToLimit_56 ?_
      refine z_icmp_eq (tgt := 92) hx hb dX3_shrinkToLimit_57 (by decide) (by omega) (by omega) (fun h57 => ?_) (fun h57 => ?_)
      · skip
        refine lv_iinc (v := zI (k + (1))) (lv' := [(6, .int (zI (k + (1)))), (0, .ref pg), (1, .int (zI (q))), (2, .int (zI ((zsum (colP P pts q) cnt.toNat)))), (3, .int (zI (((colP P pts q) 3)))), (4, .int (zI ((max 0 (most - (colP P pts q) 3))))), (5, .int (zI ((zsum (colP P pts q) cnt.toNat - (colP P pts q) 3))))]) hx hb dX3_shrinkToLimit_92 hl (k := 6) rfl (zI_add _ _) (by decide) rfl (fun ls hl => ?_)
        refine z_goto (tgt := 42) hx hb dX3_shrinkToLimit_95 (by decide) ?_
        try rw [show shK (colP P pts q) (max 0 (most - (colP P pts q) 3)) (zsum (colP P pts q) cnt.toNat - (colP P pts q) 3) k = shK (colP P pts q) (max 0 (most - (colP P pts q) 3)) (zsum (colP P pts q) cnt.toNat - (colP P pts q) 3) (k + 1) from shK_n _ _ _ (by omega) (by omega)] at hP hD
        exact ih42 (k + 1, ls) _ _ ⟨by refine ⟨?_, ?_⟩ <;> omega, lv_sub hl [1, 2, 3, 4, 5, 6, 0] rfl⟩ (by omega) hP hD hS
      · skip
        refine lv_iload hx hb dX3_shrinkToLimit_60 (lv_at hl 5 rfl) ?_
        refine z_if_le (tgt := 92) hx hb dX3_shrinkToLimit_62 (by decide) (by omega) (fun h62 => ?_) (fun h62 => ?_)
        · skip
          refine lv_iinc (v := zI (k + (1))) (lv' := [(6, .int (zI (k + (1)))), (0, .ref pg), (1, .int (zI (q))), (2, .int (zI ((zsum (colP P pts q) cnt.toNat)))), (3, .int (zI (((colP P pts q) 3)))), (4, .int (zI ((max 0 (most - (colP P pts q) 3))))), (5, .int (zI ((zsum (colP P pts q) cnt.toNat - (colP P pts q) 3))))]) hx hb dX3_shrinkToLimit_92 hl (k := 6) rfl (zI_add _ _) (by decide) rfl (fun ls hl => ?_)
          refine z_goto (tgt := 42) hx hb dX3_shrinkToLimit_95 (by decide) ?_
          try rw [show shK (colP P pts q) (max 0 (most - (colP P pts q) 3)) (zsum (colP P pts q) cnt.toNat - (colP P pts q) 3) k = shK (colP P pts q) (max 0 (most - (colP P pts q) 3)) (zsum (colP P pts q) cnt.toNat - (colP P pts q) 3) (k + 1) from shK_n _ _ _ (by omega) (by omega)] at hP hD
          exact ih42 (k + 1, ls) _ _ ⟨by refine ⟨?_, ?_⟩ <;> omega, lv_sub hl [1, 2, 3, 4, 5, 6, 0] rfl⟩ (by omega) hP hD hS
        · skip
          refine lv_aload_n hx hb dX3_shrinkToLimit_65 rfl (lv_at hl 0 rfl) ?_
          refine gf_X3_34 hx hb hT hown hK hP 0 rfl rfl dX3_shrinkToLimit_66 ?_
          refine lv_iload hx hb dX3_shrinkToLimit_69 (lv_at hl 6 rfl) ?_
          refine lv_aload_n hx hb dX3_shrinkToLimit_71 rfl (lv_at hl 0 rfl) ?_
          refine gf_X3_31 hx hb hT hown hK hP 0 rfl rfl dX3_shrinkToLimit_72 ?_
          refine z_imul hx hb dX3_shrinkToLimit_75 ?_
          refine lv_iload_n hx hb dX3_shrinkToLimit_76 rfl (lv_at hl 1 rfl) ?_
          refine z_iadd hx hb dX3_shrinkToLimit_77 ?_
          refine lv_aload_n hx hb dX3_shrinkToLimit_78 rfl (lv_at hl 0 rfl) ?_
          refine lv_iload hx hb dX3_shrinkToLimit_79 (lv_at hl 6 rfl) ?_
          refine lv_iload_n hx hb dX3_shrinkToLimit_81 rfl (lv_at hl 1 rfl) ?_
          refine z_callV (q0 := 0) (G := G) (As := [.int (zI (k)), .int (zI (q))]) (rest := [.int (zI (((k * pts) + q))), .ref pa]) hx hb hml hown hT hK (c_X3_byteAt l G pg ik mx co pa w h pts cnt most rch M C (PS P pts q (shK (colP P pts q) (max 0 (most - (colP P pts q) 3)) (zsum (colP P pts q) cnt.toNat - (colP P pts q) 3) k)) (k) (q) (pgOK_P hp (PS_b (by omega) hB (shK_b hcb hrm.1 hrm.2.1))) (by omega) (by omega)) kc_X3_38 ⟨Nat.le_of_ble_eq_true rfl, Nat.le_of_ble_eq_true rfl⟩ ⟨rfl, rfl⟩ ⟨Nat.le_of_ble_eq_true rfl, Nat.le_of_ble_eq_true rfl⟩ hP rfl rfl rfl rfl hl.1 rfl (Nat.le_of_ble_eq_true rfl) dX3_shrinkToLimit_82 ?_
          have hmd := mul_b (a := (colP P pts q) k) (b := (max 0 (most - (colP P pts q) 3))) (A := 255) (B := 2040) hck (by omega)
          refine z_top (((colP P pts q) k)) (by rw [PS_at _ _ (by omega) hq]; unfold shK; rw [if_neg (by omega)]) ?_
          refine lv_iload hx hb dX3_shrinkToLimit_85 (lv_at hl 4 rfl) ?_
          refine z_imul hx hb dX3_shrinkToLimit_87 ?_
          refine lv_iload hx hb dX3_shrinkToLimit_88 (lv_at hl 5 rfl) ?_
          refine z_idiv hx hb dX3_shrinkToLimit_90 (by omega) (by omega) ?_
          refine z_iast (ws' := pgL G pg ik mx co pa w h pts cnt most rch M C (zu (PS P pts q (shK (colP P pts q) (max 0 (most - (colP P pts q) 3)) (zsum (colP P pts q) cnt.toNat - (colP P pts q) 3) k)) ((k * pts) + q) ((((colP P pts q) k) * (max 0 (most - (colP P pts q) 3))) / (zsum (colP P pts q) cnt.toNat - (colP P pts q) 3)))) hx hb hK hP hD hS 2 rfl (⟨by omega, by omega, by omega⟩) dX3_shrinkToLimit_91 rfl (fun H locs hP hD hS => ?_)
          rw [show (zu (PS P pts q (shK (colP P pts q) (max 0 (most - (colP P pts q) 3)) (zsum (colP P pts q) cnt.toNat - (colP P pts q) 3) k)) ((k * pts) + q) ((((colP P pts q) k) * (max 0 (most - (colP P pts q) 3))) / (zsum (colP P pts q) cnt.toNat - (colP P pts q) 3))) = (PS P pts q (shK (colP P pts q) (max 0 (most - (colP P pts q) 3)) (zsum (colP P pts q) cnt.toNat - (colP P pts q) 3) (k + 1))) from by rw [PS_up _ _ _ (by omega) hq, shK_s _ _ _ (by omega) (by omega)]] at hP hD
          refine lv_iinc (v := zI (k + (1))) (lv' := [(6, .int (zI (k + (1)))), (0, .ref pg), (1, .int (zI (q))), (2, .int (zI ((zsum (colP P pts q) cnt.toNat)))), (3, .int (zI (((colP P pts q) 3)))), (4, .int (zI ((max 0 (most - (colP P pts q) 3))))), (5, .int (zI ((zsum (colP P pts q) cnt.toNat - (colP P pts q) 3))))]) hx hb dX3_shrinkToLimit_92 hl (k := 6) rfl (zI_add _ _) (by decide) rfl (fun ls hl => ?_)
          refine z_goto (tgt := 42) hx hb dX3_shrinkToLimit_95 (by decide) ?_
          try rw [show shK (colP P pts q) (max 0 (most - (colP P pts q) 3)) (zsum (colP P pts q) cnt.toNat - (colP P pts q) 3) k = shK (colP P pts q) (max 0 (most - (colP P pts q) 3)) (zsum (colP P pts q) cnt.toNat - (colP P pts q) 3) (k + 1) from shK_n _ _ _ (by omega) (by omega)] at hP hD
          exact ih42 (k + 1, ls) _ _ ⟨by refine ⟨?_, ?_⟩ <;> omega, lv_sub hl [1, 2, 3, 4, 5, 6, 0] rfl⟩ (by omega) hP hD hS
  · skip
    have e9 : PS P pts q (shrF (colP P pts q) cnt most) = P := by unfold shrF; rw [if_pos (by omega), PS_self]
    exact z_wrv () hx hb hr hlocks hK (by rw [e9]; exact hP) (by rw [e9]; exact hD) hS (trivial) dX3_shrinkToLimit_14

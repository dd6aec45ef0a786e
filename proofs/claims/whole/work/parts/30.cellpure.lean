/-! ===== a cell's sizes and ranks ===== -/
theorem sq_nn (x : Int) : 0 ≤ x * x := by
  rcases Int.le_total 0 x with h | h
  · exact Int.mul_nonneg h h
  · have := Int.mul_nonneg (a := -x) (b := -x) (by omega) (by omega)
    rw [Int.neg_mul_neg] at this
    exact this
theorem sq12 {x : Int} (h : x * x ≤ 144) : -12 ≤ x ∧ x ≤ 12 := by
  constructor
  · apply Int.not_lt.mp; intro q
    have h1 : (13 : Int) * 13 ≤ -x * -x := Int.mul_le_mul (by omega) (by omega) (by omega) (by omega)
    rw [Int.neg_mul_neg] at h1; omega
  · apply Int.not_lt.mp; intro q
    have h1 : (13 : Int) * 13 ≤ x * x := Int.mul_le_mul (by omega) (by omega) (by omega) (by omega)
    omega
/-- what of a window of r has been seen before row yv, column xv -/
def wnd (r xv yv x y : Int) : Prop := (-r ≤ x ∧ x ≤ r) ∧ (-r ≤ y ∧ y ≤ r) ∧ (y < yv ∨ (y = yv ∧ x < xv))
/-- S i is the least of init and of the sizes of those points of V whose number is i -/
def isM (init n : Int) (nm : Int → Int → Int) (V : Int → Int → Prop) (S : Int → Int) : Prop := ∀ i, 0 ≤ i → i < n → S i ≤ init ∧ 0 ≤ S i ∧ (∀ x y, V x y → nm x y = i → S i ≤ x * x + y * y) ∧ (S i = init ∨ ∃ x y, V x y ∧ nm x y = i ∧ S i = x * x + y * y)
theorem isM_congr {init n : Int} {nm : Int → Int → Int} {V V' : Int → Int → Prop} {S : Int → Int} (h : ∀ x y, V x y ↔ V' x y) (hM : isM init n nm V S) : isM init n nm V' S := by
  have e : V = V' := by funext x y; exact propext (h x y)
  rw [← e]; exact hM
theorem isM_0 {init n : Int} (h0 : 0 ≤ init) {nm : Int → Int → Int} {V : Int → Int → Prop} {S : Int → Int} (hV : ∀ x y, ¬ V x y) (hS : ∀ i, 0 ≤ i → i < n → S i = init) : isM init n nm V S := fun i a b => by
  have e := hS i a b
  exact ⟨by omega, by omega, fun x y hv _ => absurd hv (hV x y), Or.inl e⟩
theorem isM_step {init n r x0 y0 : Int} {nm : Int → Int → Int} {S : Int → Int} (hM : isM init n nm (wnd r x0 y0) S) (hx : -r ≤ x0 ∧ x0 ≤ r) (hy : -r ≤ y0 ∧ y0 ≤ r) : isM init n nm (wnd r (x0 + 1) y0) (zu S (nm x0 y0) (min (S (nm x0 y0)) (x0 * x0 + y0 * y0))) := by
  intro i a b
  obtain ⟨h1, h2, h3, h4⟩ := hM i a b
  have q1 := sq_nn x0
  have q2 := sq_nn y0
  have hw : wnd r (x0 + 1) y0 x0 y0 := ⟨hx, hy, Or.inr ⟨rfl, by omega⟩⟩
  have hup : ∀ x y, wnd r x0 y0 x y → wnd r (x0 + 1) y0 x y := fun x y h => by unfold wnd at *; omega
  have hdn : ∀ x y, wnd r (x0 + 1) y0 x y → wnd r x0 y0 x y ∨ (x = x0 ∧ y = y0) := fun x y h => by unfold wnd at *; omega
  by_cases e : i = nm x0 y0
  · rw [e] at h1 h2 h3 h4
    rw [e, zu_s]
    refine ⟨by omega, by omega, fun x y hv hn => ?_, ?_⟩
    · rcases hdn x y hv with h | ⟨h, h'⟩
      · have := h3 x y h hn; omega
      · rw [h, h']; omega
    · by_cases c : S (nm x0 y0) ≤ x0 * x0 + y0 * y0
      · rw [Int.min_eq_left c]
        rcases h4 with h | ⟨x, y, v1, v2, v3⟩
        · exact Or.inl h
        · exact Or.inr ⟨x, y, hup x y v1, v2, v3⟩
      · rw [Int.min_eq_right (by omega)]
        exact Or.inr ⟨x0, y0, hw, rfl, rfl⟩
  · rw [zu_n e]
    refine ⟨h1, h2, fun x y hv hn => ?_, ?_⟩
    · rcases hdn x y hv with h | ⟨h, h'⟩
      · exact h3 x y h hn
      · rw [h, h'] at hn; exact absurd hn.symm e
    · rcases h4 with h | ⟨x, y, v1, v2, v3⟩
      · exact Or.inl h
      · exact Or.inr ⟨x, y, hup x y v1, v2, v3⟩
theorem isM_row {init n r x0 y0 : Int} {nm : Int → Int → Int} {S : Int → Int} (hM : isM init n nm (wnd r x0 y0) S) (hx : r < x0) : isM init n nm (wnd r (-r) (y0 + 1)) S := isM_congr (fun x y => by unfold wnd; omega) hM
/-- ranks -/
def ltB (S : Int → Int) (i : Int) : Int → Bool := fun j => decide (S j < S i ∨ (S j = S i ∧ j < i))
def rkF (S : Int → Int) (n : Int) : Int → Int := fun i => cntB (ltB S i) n.toNat
theorem rkF_b (S : Int → Int) {n : Int} (hn : 0 ≤ n) (i : Int) : 0 ≤ rkF S n i ∧ rkF S n i ≤ n := by
  have h1 := cntB_b (ltB S i) n.toNat
  unfold rkF; omega
theorem rkF_congr {S S' : Int → Int} {n : Int} (h : ∀ i, 0 ≤ i → i < n → S i = S' i) : ∀ i, 0 ≤ i → i < n → rkF S n i = rkF S' n i := fun i a b => cntB_congr _ (fun j c d => by unfold ltB; rw [h i a b, h j c (by omega)])
theorem cntB_add {f g k : Int → Bool} (e : ∀ p, bI (f p) + bI (g p) = bI (k p)) : ∀ n : Nat, cntB f n + cntB g n = cntB k n := by
  intro n
  induction n with
  | zero => rfl
  | succ n ih =>
    have := e (n : Int)
    show cntB f n + bI (f (n : Int)) + (cntB g n + bI (g (n : Int))) = cntB k n + bI (k (n : Int))
    omega
theorem cntB_lt {f : Int → Bool} {a : Nat} : ∀ b : Nat, a ≤ b → cntB (fun j => f j && decide (j < (a : Int))) b = cntB f a := by
  intro b
  induction b with
  | zero => intro h; have e : a = 0 := by omega
            rw [e]; rfl
  | succ n ih =>
    intro h
    by_cases q : a = n + 1
    · rw [q]
      exact cntB_congr _ (fun p h1 h2 => by rw [decide_eq_true h2, Bool.and_true])
    · show cntB (fun j => f j && decide (j < (a : Int))) n + bI (f (n : Int) && decide ((n : Int) < (a : Int))) = cntB f a
      rw [ih (by omega), decide_eq_false (by omega), Bool.and_false]
      exact Int.add_zero _
def n1 (S : Int → Int) (i : Int) : Int → Int := fun s => cntB (fun j => decide (S j + 1 = s)) i.toNat
theorem n1_b (S : Int → Int) {i : Int} (h : 0 ≤ i) (s : Int) : 0 ≤ n1 S i s ∧ n1 S i s ≤ i := by
  have h1 := cntB_b (fun j => decide (S j + 1 = s)) i.toNat
  unfold n1; omega
theorem n1_s (S : Int → Int) {i : Int} (h : 0 ≤ i) : zu (n1 S i) (S i + 1) (n1 S i (S i + 1) + 1) = n1 S (i + 1) := by
  funext s
  show (if s = S i + 1 then n1 S i (S i + 1) + 1 else n1 S i s) = cntB (fun j => decide (S j + 1 = s)) (i + 1).toNat
  rw [cntB_s _ h]
  by_cases e : s = S i + 1
  · rw [if_pos e, decide_eq_true (show S i + 1 = s by omega), e]; rfl
  · rw [if_neg e, decide_eq_false (fun q => e q.symm)]; exact (Int.add_zero _).symm
def n2 (S : Int → Int) (n z : Int) : Int → Int := fun s => if s < z then cntB (fun j => decide (S j < s)) n.toNat else n1 S n s
theorem n2_b (S : Int → Int) {n : Int} (h : 0 ≤ n) (z s : Int) : 0 ≤ n2 S n z s ∧ n2 S n z s ≤ n := by
  have h1 := cntB_b (fun j => decide (S j < s)) n.toNat
  have h2 := n1_b S h s
  unfold n2; split <;> omega
theorem n2_1 {S : Int → Int} {n : Int} (hS : ∀ j, 0 ≤ j → j < n → 0 ≤ S j) : n2 S n 1 = n1 S n := by
  funext s
  unfold n2
  by_cases c : s < 1
  · rw [if_pos c]
    refine cntB_congr _ (fun p h1 h2 => ?_)
    have := hS p h1 (by omega)
    rw [decide_eq_false (by omega), decide_eq_false (by omega)]
  · rw [if_neg c]
theorem n2_s (S : Int → Int) (n : Int) {z : Int} : zu (n2 S n z) z (n2 S n z z + n2 S n z (z - 1)) = n2 S n (z + 1) := by
  funext s
  by_cases e : s = z
  · rw [e, zu_s]
    unfold n2
    rw [if_neg (by omega), if_pos (by omega), if_pos (by omega)]
    refine cntB_add (fun p => ?_) _
    by_cases q1 : S p + 1 = z
    · rw [decide_eq_true q1, decide_eq_false (by omega), decide_eq_true (by omega)]; rfl
    · by_cases q2 : S p < z - 1
      · rw [decide_eq_false q1, decide_eq_true q2, decide_eq_true (by omega)]; rfl
      · rw [decide_eq_false q1, decide_eq_false q2, decide_eq_false (by omega)]; rfl
  · rw [zu_n e]
    unfold n2
    by_cases q : s < z
    · rw [if_pos q, if_pos (by omega)]
    · rw [if_neg q, if_neg (by omega)]
def n3 (S : Int → Int) (n i : Int) : Int → Int := fun s => if s < 289 then cntB (fun j => decide (S j < s)) n.toNat + cntB (fun j => decide (S j = s)) i.toNat else n1 S n s
theorem n3_0 (S : Int → Int) (n : Int) : n2 S n 289 = n3 S n 0 := by
  funext s
  unfold n2 n3
  by_cases q : s < 289
  · rw [if_pos q, if_pos q]; exact (Int.add_zero _).symm
  · rw [if_neg q, if_neg q]
theorem n3_at {S : Int → Int} {n i : Int} (hi : 0 ≤ i ∧ i < n) (hs : S i ≤ 288) : n3 S n i (S i) = rkF S n i := by
  unfold n3 rkF
  rw [if_pos (by omega)]
  have e : cntB (fun j => decide (S j = S i)) i.toNat = cntB (fun j => decide (S j = S i) && decide (j < i)) n.toNat := by
    have h1 := (cntB_lt (f := fun j => decide (S j = S i)) (a := i.toNat) n.toNat (by omega)).symm
    rw [toNat_c hi.1] at h1
    exact h1
  rw [e]
  refine cntB_add (fun p => ?_) _
  unfold ltB
  by_cases q1 : S p < S i
  · rw [decide_eq_true q1, decide_eq_false (show ¬ S p = S i by omega), decide_eq_true (Or.inl q1)]; rfl
  · by_cases q2 : S p = S i ∧ p < i
    · rw [decide_eq_false q1, decide_eq_true q2.1, decide_eq_true q2.2, decide_eq_true (Or.inr q2)]; rfl
    · rw [decide_eq_false q1, decide_eq_false (show ¬ (S p < S i ∨ (S p = S i ∧ p < i)) from fun z => z.elim q1 q2)]
      by_cases q3 : S p = S i
      · rw [decide_eq_true q3, decide_eq_false (fun z => q2 ⟨q3, z⟩)]; rfl
      · rw [decide_eq_false q3]; rfl
theorem n3_b (S : Int → Int) {n i : Int} (h : 0 ≤ n) (hi : 0 ≤ i) (s : Int) : 0 ≤ n3 S n i s ∧ n3 S n i s ≤ n + i := by
  have h1 := cntB_b (fun j => decide (S j < s)) n.toNat
  have h2 := n1_b S h s
  have h3 := cntB_b (fun j => decide (S j = s)) i.toNat
  unfold n3; split <;> omega
theorem n3_s {S : Int → Int} {n i : Int} (hi : 0 ≤ i) (hs : S i ≤ 288) : zu (n3 S n i) (S i) (n3 S n i (S i) + 1) = n3 S n (i + 1) := by
  funext s
  by_cases e : s = S i
  · rw [e, zu_s]
    unfold n3
    rw [if_pos (by omega), if_pos (by omega), cntB_s _ hi, decide_eq_true (show S i = S i from rfl)]
    have hb : bI true = 1 := rfl
    omega
  · rw [zu_n e]
    unfold n3
    rw [cntB_s _ hi, decide_eq_false (fun z => e z.symm)]
    have hb : bI false = 0 := rfl
    split <;> omega
/-- a piece of an array -/
def ZS (Z : Int → Int) (q i : Int) (R : Int → Int) : Int → Int := fun j => if q ≤ j ∧ j < q + i then R (j - q) else Z j
theorem ZS_0 (Z : Int → Int) (q : Int) (R : Int → Int) : ZS Z q 0 R = Z := by funext j; unfold ZS; rw [if_neg (by omega)]
theorem ZS_s (Z : Int → Int) (q : Int) (R : Int → Int) {i : Int} (hi : 0 ≤ i) : zu (ZS Z q i R) (q + i) (R i) = ZS Z q (i + 1) R := by
  funext j; unfold zu ZS
  by_cases e : j = q + i
  · rw [if_pos e, if_pos (by omega), e, show q + i - q = i by omega]
  · rw [if_neg e]
    by_cases c : q ≤ j ∧ j < q + i
    · rw [if_pos c, if_pos (by omega)]
    · rw [if_neg c, if_neg (by omega)]
theorem ZS_up (Z : Int → Int) (q : Int) (R : Int → Int) {i n v : Int} (hi : 0 ≤ i ∧ i < n) : zu (ZS Z q n R) (q + i) v = ZS Z q n (zu R i v) := by
  funext j; unfold zu ZS
  by_cases e : j = q + i
  · rw [if_pos e, if_pos (by omega)]; exact (if_pos (by omega)).symm
  · rw [if_neg e]
    by_cases c : q ≤ j ∧ j < q + n
    · rw [if_pos c, if_pos c]; exact (if_neg (by omega)).symm
    · rw [if_neg c, if_neg c]
theorem ZS_at (Z : Int → Int) (q : Int) (R : Int → Int) {i n : Int} (hi : 0 ≤ i ∧ i < n) : ZS Z q n R (q + i) = R i := by
  unfold ZS; rw [if_pos (by omega), show q + i - q = i by omega]
theorem ZS_b {Z R : Int → Int} {q n A B : Int} (hZ : ∀ j, A ≤ Z j ∧ Z j ≤ B) (hR : ∀ j, A ≤ R j ∧ R j ≤ B) : ∀ j, A ≤ ZS Z q n R j ∧ ZS Z q n R j ≤ B := by
  intro j; unfold ZS; split
  · exact hR _
  · exact hZ _
/-! ===== the numbers of a cell: what is true of all of them ===== -/
def okc (a b : Int) : Bool := decide (cdR a (if b < 0 then -b else b) 11 = cdR a b 11) && decide (1 ≤ cdR a b 11 ∧ cdR a b 11 ≤ 12) && decide (cdR a b 11 * ((a * a + b * b) / cdR a b 11) = a * a + b * b) && decide (1 ≤ (a * a + b * b) / cdR a b 11) && decide (-300 ≤ fiR a b (cdR a b 11) 25 ∧ fiR a b (cdR a b 11) 25 ≤ 300) && decide (a % cdR a b 11 = 0 ∧ b % cdR a b 11 = 0) && decide ((b / cdR a b 11 * fiR a b (cdR a b 11) 25 - a) % ((a * a + b * b) / cdR a b 11) = 0) && decide ((a / cdR a b 11 * fiR a b (cdR a b 11) 25 + b) % ((a * a + b * b) / cdR a b 11) = 0)
set_option maxRecDepth 100000 in
theorem okc_all : ((List.range 13).all fun a => (List.range 25).all fun b => (decide ((a : Int) = 0 ∧ (b : Int) - 12 = 0) || okc (a : Int) ((b : Int) - 12))) = true := by decide +kernel
theorem okc_at {a b : Int} (ha : 0 ≤ a ∧ a ≤ 12) (hb : -12 ≤ b ∧ b ≤ 12) (h0 : ¬ (a = 0 ∧ b = 0)) : okc a b = true := by
  have h1 := List.all_eq_true.mp okc_all a.toNat (List.mem_range.mpr (by omega))
  have h2 := List.all_eq_true.mp h1 (b + 12).toNat (List.mem_range.mpr (by omega))
  rw [toNat_c ha.1, toNat_c (show 0 ≤ b + 12 by omega), show b + 12 - 12 = b by omega, decide_eq_false h0, Bool.false_or] at h2
  exact h2

theorem sq_sum {a b : Int} (ha : 0 ≤ a ∧ a ≤ 12) (hb : -12 ≤ b ∧ b ≤ 12) (h0 : ¬ (a = 0 ∧ b = 0)) : 1 ≤ a * a + b * b ∧ a * a + b * b ≤ 288 := by
  have h1 := mul_bs (a := a) (b := a) (A := 12) (B := 12) (by omega) (by omega)
  have h2 := mul_bs (a := b) (b := b) (A := 12) (B := 12) (by omega) (by omega)
  have h3 := sq_nn a
  have h4 := sq_nn b
  refine ⟨?_, by omega⟩
  by_cases q : a = 0
  · have q2 : b ≠ 0 := fun z => h0 ⟨q, z⟩
    by_cases q3 : 0 < b
    · have := Int.mul_le_mul (a := 1) (b := 1) (c := b) (d := b) (by omega) (by omega) (by omega) (by omega); omega
    · have h5 := Int.mul_le_mul (a := 1) (b := 1) (c := -b) (d := -b) (by omega) (by omega) (by omega) (by omega)
      rw [Int.neg_mul_neg] at h5; omega
  · have := Int.mul_le_mul (a := 1) (b := 1) (c := a) (d := a) (by omega) (by omega) (by omega) (by omega); omega
def ceF (a b d br s : Int) : Prop := (1 ≤ d ∧ d ≤ 12) ∧ (1 ≤ br ∧ br ≤ 288) ∧ d * br = a * a + b * b ∧ (-300 ≤ s ∧ s ≤ 300) ∧ (a % d = 0 ∧ b % d = 0) ∧ (b / d * s - a) % br = 0 ∧ (a / d * s + b) % br = 0
theorem ceF_at {a b : Int} (ha : 0 ≤ a ∧ a ≤ 12) (hb : -12 ≤ b ∧ b ≤ 12) (h0 : ¬ (a = 0 ∧ b = 0)) : cdR a (if b < 0 then -b else b) 11 = cdR a b 11 ∧ ceF a b (cdR a b 11) ((a * a + b * b) / cdR a b 11) (fiR a b (cdR a b 11) 25) := by
  have h := okc_at ha hb h0
  have hs := sq_sum ha hb h0
  unfold okc at h
  simp only [Bool.and_eq_true, decide_eq_true_eq] at h
  obtain ⟨⟨⟨⟨⟨⟨⟨h1, h2⟩, h3⟩, h4⟩, h5⟩, h6⟩, h7⟩, h8⟩ := h
  refine ⟨h1, h2, ⟨h4, ?_⟩, h3, h5, h6, h7, h8⟩
  have h9 := Int.ediv_le_self (cdR a b 11) (show 0 ≤ a * a + b * b by omega)
  omega
theorem nm_move {a b d br s x y p q : Int} (h : ceF a b d br s) : nmV d br s (x - p * a + q * b) (y - p * b - q * a) = nmV d br s x y := by
  obtain ⟨hd, hbr, -, -, ⟨h1, h2⟩, h3, h4⟩ := h
  obtain ⟨a', ea⟩ := Int.dvd_of_emod_eq_zero h1
  obtain ⟨b', eb⟩ := Int.dvd_of_emod_eq_zero h2
  obtain ⟨k1, e1⟩ := Int.dvd_of_emod_eq_zero h3
  obtain ⟨k2, e2⟩ := Int.dvd_of_emod_eq_zero h4
  have ea2 : a / d = a' := by rw [ea]; exact Int.mul_ediv_cancel_left _ (by omega)
  have eb2 : b / d = b' := by rw [eb]; exact Int.mul_ediv_cancel_left _ (by omega)
  rw [eb2] at e1
  rw [ea2] at e2
  have ey : y - p * b - q * a = y + d * (-(p * b') - q * a') := by rw [ea, eb]; grind
  have ed : (y - p * b - q * a) / d = y / d + (-(p * b') - q * a') := by rw [ey]; exact Int.add_mul_ediv_left _ _ (by omega)
  have e3 : x - p * a + q * b - (y / d + (-(p * b') - q * a')) * s = x - y / d * s + br * (p * k1 + q * k2) := by
    have f1 : br * (p * k1 + q * k2) = p * (b' * s - a) + q * (a' * s + b) := by rw [e1, e2]; grind
    rw [f1]; grind
  have e4 : y - p * b - q * a - (y / d + (-(p * b') - q * a')) * d = y - y / d * d := by rw [ey]; grind
  unfold nmV
  rw [ed, e3, e4, Int.add_mul_emod_self_left]
theorem round_ex {n : Int} (hn : 0 < n) (u : Int) : ∃ p : Int, -n ≤ 2 * (u - p * n) ∧ 2 * (u - p * n) ≤ n := by
  refine ⟨(2 * u + n) / (2 * n), ?_⟩
  have h1 := Int.mul_ediv_add_emod (2 * u + n) (2 * n)
  have h2 := Int.emod_nonneg (2 * u + n) (show 2 * n ≠ 0 by omega)
  have h3 := Int.emod_lt_of_pos (2 * u + n) (show 0 < 2 * n by omega)
  generalize (2 * u + n) / (2 * n) = p at *
  have h4 : 2 * n * p = 2 * (p * n) := by grind
  omega
/-- every number of a cell is that of a point not far from (0, 0) -/
theorem cover {a b d br s : Int} (h : ceF a b d br s) (hn : 1 ≤ a * a + b * b ∧ a * a + b * b ≤ 288) {i : Int} (hi : 0 ≤ i ∧ i < a * a + b * b) : ∃ x y, nmV d br s x y = i ∧ (-12 ≤ x ∧ x ≤ 12) ∧ (-12 ≤ y ∧ y ≤ 12) ∧ 2 * (x * x + y * y) ≤ a * a + b * b := by
  obtain ⟨hd, hbr, hdb, -⟩ := id h
  have m1 := Int.mul_ediv_add_emod i br
  have m2 := Int.emod_nonneg i (show br ≠ 0 by omega)
  have m3 := Int.emod_lt_of_pos i (show 0 < br by omega)
  have m4 := Int.ediv_nonneg hi.1 (show 0 ≤ br by omega)
  have m5 : i / br < d := Int.ediv_lt_of_lt_mul (by omega) (by rw [hdb]; exact hi.2)
  have hat : nmV d br s (i % br) (i / br) = i := by
    unfold nmV
    rw [Int.ediv_eq_zero_of_lt m4 m5, Int.zero_mul, Int.zero_mul, Int.sub_zero, Int.sub_zero, Int.emod_eq_of_lt m2 m3, Int.mul_comm (i / br) br]
    omega
  generalize i % br = x0 at hat
  generalize i / br = y0 at hat
  obtain ⟨p, p1, p2⟩ := round_ex (n := a * a + b * b) (by omega) (x0 * a + y0 * b)
  obtain ⟨q, q1, q2⟩ := round_ex (n := a * a + b * b) (by omega) (y0 * a - x0 * b)
  have eu : x0 * a + y0 * b - p * (a * a + b * b) = (x0 - p * a + q * b) * a + (y0 - p * b - q * a) * b := by grind
  have ev : y0 * a - x0 * b - q * (a * a + b * b) = (y0 - p * b - q * a) * a - (x0 - p * a + q * b) * b := by grind
  have hm : nmV d br s (x0 - p * a + q * b) (y0 - p * b - q * a) = i := (nm_move h).trans hat
  rw [eu] at p1 p2
  rw [ev] at q1 q2
  generalize x0 - p * a + q * b = x at *
  generalize y0 - p * b - q * a = y at *
  have k1 := mul_bs (a := 2 * (x * a + y * b)) (b := 2 * (x * a + y * b)) (A := a * a + b * b) (B := a * a + b * b) ⟨p1, p2⟩ ⟨p1, p2⟩
  have k2 := mul_bs (a := 2 * (y * a - x * b)) (b := 2 * (y * a - x * b)) (A := a * a + b * b) (B := a * a + b * b) ⟨q1, q2⟩ ⟨q1, q2⟩
  have k3 : 2 * (x * a + y * b) * (2 * (x * a + y * b)) + 2 * (y * a - x * b) * (2 * (y * a - x * b)) = 2 * ((a * a + b * b) * (2 * (x * x + y * y))) := by grind
  have k4 : (a * a + b * b) * (2 * (x * x + y * y)) ≤ (a * a + b * b) * (a * a + b * b) := by omega
  have k5 : 2 * (x * x + y * y) ≤ a * a + b * b := Int.le_of_mul_le_mul_left k4 (by omega)
  have s1 := sq_nn x
  have s2 := sq_nn y
  exact ⟨x, y, hm, sq12 (by omega), sq12 (by omega), k5⟩
def full (r x y : Int) : Prop := (-r ≤ x ∧ x ≤ r) ∧ (-r ≤ y ∧ y ≤ r)
theorem isM_full {init n r x0 y0 : Int} {nm : Int → Int → Int} {S : Int → Int} (hM : isM init n nm (wnd r x0 y0) S) (hy : r < y0) : isM init n nm (full r) S := isM_congr (fun x y => by unfold wnd full; omega) hM
theorem far13 {x y : Int} (h : full 13 x y) (h2 : ¬ full 12 x y) : 169 ≤ x * x + y * y := by
  have s1 := sq_nn x
  have s2 := sq_nn y
  unfold full at h h2
  have c : x = 13 ∨ x = -13 ∨ y = 13 ∨ y = -13 := by omega
  rcases c with c | c | c | c <;> (rw [c] at *; omega)
theorem sizes_eq {a b d br s : Int} {S1 S2 : Int → Int} (h : ceF a b d br s) (hn : 1 ≤ a * a + b * b ∧ a * a + b * b ≤ 288) (h1 : isM 288 (a * a + b * b) (nmV d br s) (full 12) S1) (h2 : isM (a * a + b * b) (a * a + b * b) (nmV d br s) (full 13) S2) : ∀ i, 0 ≤ i → i < a * a + b * b → S1 i = S2 i := by
  intro i i0 i1
  obtain ⟨x, y, e, hx, hy, hq⟩ := cover h hn ⟨i0, i1⟩
  obtain ⟨a1, a2, a3, a4⟩ := h1 i i0 i1
  obtain ⟨b1, b2, b3, b4⟩ := h2 i i0 i1
  have c1 := a3 x y ⟨hx, hy⟩ e
  have c2 := b3 x y ⟨by omega, by omega⟩ e
  have c3 : S1 i ≤ S2 i := by
    rcases b4 with b4 | ⟨x', y', v1, v2, v3⟩
    · omega
    · by_cases q : full 12 x' y'
      · rw [v3]; exact a3 x' y' q v2
      · have := far13 v1 q; omega
  have c4 : S2 i ≤ S1 i := by
    rcases a4 with a4 | ⟨x', y', v1, v2, v3⟩
    · omega
    · rw [v3]; exact b3 x' y' (by unfold full at *; omega) v2
  omega

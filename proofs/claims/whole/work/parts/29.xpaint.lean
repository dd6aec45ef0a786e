/-! ===== the class paints a rectangle ===== -/
def PA (P : Int → Int) (pts : Int) (f : Int → Bool) (F : (Int → Int) → (Int → Int)) : Int → Int := fun j => if 0 ≤ j ∧ j < 8 * pts ∧ f (j % pts) = true then F (colP P pts (j % pts)) (j / pts) else P j
theorem PA_congr (P : Int → Int) {pts : Int} {f g : Int → Bool} (F : (Int → Int) → (Int → Int)) (hp : 0 < pts) (e : ∀ p, 0 ≤ p → p < pts → f p = g p) : PA P pts f F = PA P pts g F := by
  funext j
  unfold PA
  rw [e (j % pts) (Int.emod_nonneg j (by omega)) (Int.emod_lt_of_pos j hp)]
theorem PA_0 (P : Int → Int) {pts : Int} {f : Int → Bool} (F : (Int → Int) → (Int → Int)) (hp : 0 < pts) (e : ∀ p, 0 ≤ p → p < pts → f p = false) : PA P pts f F = P := by
  funext j
  unfold PA
  rw [e (j % pts) (Int.emod_nonneg j (by omega)) (Int.emod_lt_of_pos j hp)]
  exact if_neg (fun c => nomatch c.2.2)
theorem PA_col (P : Int → Int) {pts q : Int} {f : Int → Bool} (F : (Int → Int) → (Int → Int)) (hq : 0 ≤ q ∧ q < pts) (hf : f q = false) : ∀ k, 0 ≤ k → k < 8 → colP (PA P pts f F) pts q k = colP P pts q k := by
  intro k _ _
  have h1 := kq_dm (k := k) hq
  show PA P pts f F (k * pts + q) = P (k * pts + q)
  unfold PA
  rw [h1.1, hf]
  exact if_neg (fun c => nomatch c.2.2)
theorem PA_step (P : Int → Int) {pts q : Int} {f g : Int → Bool} {F : (Int → Int) → (Int → Int)} (hF : ∀ b b', (∀ k, 0 ≤ k → k < 8 → b k = b' k) → ∀ k, 0 ≤ k → k < 8 → F b k = F b' k) (hq : 0 ≤ q ∧ q < pts) (hf : f q = false) (hg : g q = true) (hr : ∀ p, 0 ≤ p → p < pts → p ≠ q → g p = f p) : PS (PA P pts f F) pts q (F (colP (PA P pts f F) pts q)) = PA P pts g F := by
  have hc := PA_col P F hq hf
  funext j
  have m1 := Int.emod_nonneg j (show pts ≠ 0 by omega)
  have m2 := Int.emod_lt_of_pos j (show 0 < pts by omega)
  by_cases c : 0 ≤ j ∧ j < 8 * pts ∧ j % pts = q
  · have hk : 0 ≤ j / pts ∧ j / pts < 8 := ⟨Int.ediv_nonneg c.1 (by omega), Int.ediv_lt_of_lt_mul (by omega) (by omega)⟩
    have e1 : PS (PA P pts f F) pts q (F (colP (PA P pts f F) pts q)) j = F (colP (PA P pts f F) pts q) (j / pts) := if_pos c
    have e2 : PA P pts g F j = F (colP P pts (j % pts)) (j / pts) := if_pos ⟨c.1, c.2.1, by rw [c.2.2]; exact hg⟩
    rw [e1, e2, c.2.2]
    exact hF _ _ hc _ hk.1 hk.2
  · have e1 : PS (PA P pts f F) pts q (F (colP (PA P pts f F) pts q)) j = PA P pts f F j := if_neg c
    rw [e1]
    unfold PA
    by_cases d : 0 ≤ j ∧ j < 8 * pts
    · rw [hr (j % pts) m1 m2 (fun e => c ⟨d.1, d.2, e⟩)]
    · rw [if_neg (fun z => d ⟨z.1, z.2.1⟩), if_neg (fun z => d ⟨z.1, z.2.1⟩)]
theorem PA_b {P : Int → Int} {pts : Int} {f : Int → Bool} {F : (Int → Int) → (Int → Int)} (hp : 0 < pts) (hB : ∀ j, 0 ≤ P j ∧ P j ≤ 255) (hF : ∀ b : Int → Int, (∀ k, 0 ≤ k → k < 8 → 0 ≤ b k ∧ b k ≤ 255) → ∀ k, 0 ≤ k → k < 8 → 0 ≤ F b k ∧ F b k ≤ 255) : ∀ j, 0 ≤ PA P pts f F j ∧ PA P pts f F j ≤ 255 := by
  intro j
  unfold PA
  by_cases c : 0 ≤ j ∧ j < 8 * pts ∧ f (j % pts) = true
  · rw [if_pos c]
    exact hF _ (fun k _ _ => hB _) _ (Int.ediv_nonneg c.1 (by omega)) (Int.ediv_lt_of_lt_mul (by omega) (by omega))
  · rw [if_neg c]; exact hB j
theorem ptF_ext (C : Int → Int) {cnt : Int} (hc : 4 ≤ cnt ∧ cnt ≤ 8) (ov most : Int) : ∀ b b', (∀ k, 0 ≤ k → k < 8 → b k = b' k) → ∀ k, 0 ≤ k → k < 8 → ptF C ov cnt most b k = ptF C ov cnt most b' k := by
  intro b b' h k h1 h2
  have e : zsum (pnF C ov b cnt) cnt.toNat = zsum (pnF C ov b' cnt) cnt.toNat := zsum_congr _ (fun k h3 h4 => pnF_ext h k h3 (by omega))
  unfold ptF
  rw [e]
  split
  · exact pnF_ext h k h1 h2
  · exact shrF_ext (by omega) (mvF_ext (pnF_ext h)) k h1 h2
/-- those that are painted before row v, column u -/
def wC (f : Int → Bool) (w u v : Int) : Int → Bool := fun p => f p && decide (p / w < v ∨ (p / w = v ∧ p % w < u))
theorem cntB_congr {f g : Int → Bool} : ∀ n : Nat, (∀ p : Int, 0 ≤ p → p < n → f p = g p) → cntB f n = cntB g n := by
  intro n
  induction n with
  | zero => intro _; rfl
  | succ n ih => intro h; show cntB f n + bI (f (n : Int)) = cntB g n + bI (g (n : Int)); rw [ih (fun p a b => h p a (by omega)), h (n : Int) (by omega) (by omega)]
theorem cntB_none {f : Int → Bool} : ∀ n : Nat, (∀ p : Int, 0 ≤ p → p < n → f p = false) → cntB f n = 0 := by
  intro n
  induction n with
  | zero => intro _; rfl
  | succ n ih => intro h; show cntB f n + bI (f (n : Int)) = 0; rw [ih (fun p a b => h p a (by omega)), h (n : Int) (by omega) (by omega)]; rfl
theorem cntB_one {f g : Int → Bool} {q : Int} (hf : f q = false) (hg : g q = true) : ∀ n : Nat, 0 ≤ q → q < n → (∀ p : Int, 0 ≤ p → p < n → p ≠ q → g p = f p) → cntB g n = cntB f n + 1 := by
  intro n
  induction n with
  | zero => intro _ h; omega
  | succ n ih =>
    intro h0 h1 h
    show cntB g n + bI (g (n : Int)) = cntB f n + bI (f (n : Int)) + 1
    by_cases e : q = (n : Int)
    · rw [← e, hf, hg, cntB_congr n (fun p a b => h p a (by omega) (by omega))]
      have b1 : bI true = 1 := rfl
      have b0 : bI false = 0 := rfl
      omega
    · rw [ih h0 (by omega) (fun p a b c => h p a (by omega) c), h (n : Int) (by omega) (by omega) (fun z => e z.symm)]; omega
theorem rc_iff {x y x2 y2 w p : Int} : inRc x y x2 y2 w p = true ↔ (x ≤ p % w ∧ p % w ≤ x2 ∧ y ≤ p / w ∧ p / w ≤ y2) := by unfold inRc; exact decide_eq_true_iff
theorem wC_eq {x y x2 y2 w h u v u' v' p : Int} (hw : 1 ≤ w) (hp : 0 ≤ p ∧ p < w * h) (e : (0 ≤ p % w ∧ p % w < w) → (0 ≤ p / w ∧ p / w < h) → (x ≤ p % w ∧ p % w ≤ x2 ∧ y ≤ p / w ∧ p / w ≤ y2) → ((p / w < v ∨ (p / w = v ∧ p % w < u)) ↔ (p / w < v' ∨ (p / w = v' ∧ p % w < u')))) : wC (inRc x y x2 y2 w) w u v p = wC (inRc x y x2 y2 w) w u' v' p := by
  obtain ⟨a, b⟩ := q_xy (h := h) hw hp
  unfold wC
  cases c : inRc x y x2 y2 w p with
  | false => rfl
  | true => rw [decide_eq_decide.mpr (e a b (rc_iff.mp c))]
theorem wC_f {x y x2 y2 w h u v p : Int} (hw : 1 ≤ w) (hp : 0 ≤ p ∧ p < w * h) (e : (0 ≤ p % w ∧ p % w < w) → (0 ≤ p / w ∧ p / w < h) → (x ≤ p % w ∧ p % w ≤ x2 ∧ y ≤ p / w ∧ p / w ≤ y2) → ¬ (p / w < v ∨ (p / w = v ∧ p % w < u))) : wC (inRc x y x2 y2 w) w u v p = false := by
  obtain ⟨a, b⟩ := q_xy (h := h) hw hp
  unfold wC
  cases c : inRc x y x2 y2 w p with
  | false => rfl
  | true => rw [decide_eq_false (e a b (rc_iff.mp c))]; rfl
theorem wC_t {x y x2 y2 w h u v p : Int} (hw : 1 ≤ w) (hp : 0 ≤ p ∧ p < w * h) (e : (0 ≤ p % w ∧ p % w < w) → (0 ≤ p / w ∧ p / w < h) → (x ≤ p % w ∧ p % w ≤ x2 ∧ y ≤ p / w ∧ p / w ≤ y2) → (p / w < v ∨ (p / w = v ∧ p % w < u))) : wC (inRc x y x2 y2 w) w u v p = inRc x y x2 y2 w p := by
  obtain ⟨a, b⟩ := q_xy (h := h) hw hp
  unfold wC
  cases c : inRc x y x2 y2 w p with
  | false => rfl
  | true => rw [decide_eq_true (e a b (rc_iff.mp c))]; rfl

set_option maxHeartbeats 4000000 in
set_option maxRecDepth 100000 in
theorem c_X4_paint (l : Launch) (G : zG) (xx pg ik mx co pa cv ca cb ar : Nat) (nx w h pts cnt most rch : Int) (M C P : Int → Int) (cc : Int) (L V : Int → Int) (F : Nat → Option Nat) (x y x2 y2 ov : Int) (hp : pgOK w h pts cnt most rch M C P) (hvv : cvOK cc L V) (hnx : 0 ≤ nx ∧ nx ≤ 6) (hx : -2147483648 ≤ x ∧ x ≤ 2147483647) (hy : -2147483648 ≤ y ∧ y ≤ 2147483647) (hx2 : -2147483648 ≤ x2 ∧ x2 ≤ 2147483647) (hy2 : -2147483648 ≤ y2 ∧ y2 ≤ 2147483647) (hov : 0 ≤ ov ∧ ov ≤ 1) : zWi l yX4_paint cX4_paint 13 (some .int) { frames := 4, cells := 0, slots := 0, locals := 95 } G [.ref xx, .int (zI (x)), .int (zI (y)), .int (zI (x2)), .int (zI (y2)), .int (zI (ov))] (xL G xx pg ik mx co pa cv ca cb ar nx w h pts cnt most rch M C P cc L V F) (S := Unit) (fun u => cntB (inRc x y x2 y2 w) pts.toNat) (fun u => True) (fun u => xL G xx pg ik mx co pa cv ca cb ar nx w h pts cnt most rch M C (PA P pts (inRc x y x2 y2 w) (ptF C ov cnt most)) cc L V F) := by
  intro sz
  refine Met.ofW (cc := cX4_paint) (maxL := 13) (ret := (some .int)) (by decide) rfl ?_
  intro p e s m args below meth c s₁ B hml hv
  obtain ⟨rfl, hsz, hP, hK, hD0⟩ := hv
  have hx := B.exec
  have hb := B.bytes
  have hr := B.returns
  have hT : ∀ w ∈ TB, w.before _ s = true := fun w h => atoms_spec (ws := Cond.code yX4_paint cX4_paint 13 (some .int) :: TB) B.pre w (List.mem_cons_of_mem _ h)
  have hown : s.vm.findClass RX4 = some m.cls := findClass_of_methodNamed B.named
  have hlocks := B.notSynchronized
  subst hsz
  have hD := hD0.self (sz := s.heap.size)
  generalize hAe : va_A (xL G xx pg ik mx co pa cv ca cb ar nx w h pts cnt most rch M C P cc L V F) s.heap.size = A at hD ⊢
  have hA : ∀ q : Nat, s.heap.size ≤ q → A q := fun q h => by rw [← hAe]; exact Or.inr h
  have hS : va_S A s.heap s.heap [] := va_S.rf
  have hP : zP G (xL G xx pg ik mx co pa cv ca cb ar nx w h pts cnt most rch M C P cc L V F) s.heap := hP
  have hD : va_D A (xL G xx pg ik mx co pa cv ca cb ar nx w h pts cnt most rch M C P cc L V F) := hD
  have hl := lv_entry ([.ref xx, .int (zI (x)), .int (zI (y)), .int (zI (x2)), .int (zI (y2)), .int (zI (ov))]) (n := 13) (Nat.le_of_ble_eq_true rfl)
  rw [lg_entry_eq]
  generalize (lg_sl ([.ref xx, .int (zI (x)), .int (zI (y)), .int (zI (x2)), .int (zI (y2)), .int (zI (ov))]) ++ List.replicate (13 - (lg_sl ([.ref xx, .int (zI (x)), .int (zI (y)), .int (zI (x2)), .int (zI (y2)), .int (zI (ov))])).length) Slot.unset).toArray = ls at hl ⊢
  have hl : lv_has ls 13 [(0, .ref xx), (1, .int (zI (x))), (2, .int (zI (y))), (3, .int (zI (x2))), (4, .int (zI (y2))), (5, .int (zI (ov)))] := hl
  obtain ⟨hw, hh, hpts, hcnt, hmost, hrch, hM, hC, hB⟩ := id hp
  have hpt := pgOK_pts hp
  obtain ⟨hcc, hL0, hLe, hLs, hLb, hVb⟩ := id hvv
  refine z_iconst hx hb dX4_paint_0 ?_
  refine lv_iload_n hx hb dX4_paint_1 rfl (lv_at hl 1 rfl) ?_
  refine z_mmax hx hb hml hl.1 hown hT kc_X4_15 ⟨Nat.le_of_ble_eq_true rfl, Nat.le_of_ble_eq_true rfl⟩ ⟨Nat.le_of_ble_eq_true rfl, Nat.le_of_ble_eq_true rfl⟩ (by omega) (by omega) dX4_paint_2 ?_
  refine lv_istore (lv' := [(6, .int (zI ((max 0 x)))), (0, .ref xx), (1, .int (zI (x))), (2, .int (zI (y))), (3, .int (zI (x2))), (4, .int (zI (y2))), (5, .int (zI (ov)))]) hx hb dX4_paint_5 hl (by decide) rfl (fun ls hl => ?_)
  refine lv_aload_n hx hb dX4_paint_7 rfl (lv_at hl 1 rfl) ?_
  refine gf_X4_23 hx hb hT hown hK hP 0 rfl rfl dX4_paint_8 ?_
  refine gf_X4_83 hx hb hT hown hK hP 1 rfl rfl dX4_paint_11 ?_
  refine z_iconst hx hb dX4_paint_14 ?_
  refine z_isub hx hb dX4_paint_15 ?_
  refine lv_iload_n hx hb dX4_paint_16 rfl (lv_at hl 4 rfl) ?_
  refine z_mmin hx hb hml hl.1 hown hT kc_X4_9 ⟨Nat.le_of_ble_eq_true rfl, Nat.le_of_ble_eq_true rfl⟩ ⟨Nat.le_of_ble_eq_true rfl, Nat.le_of_ble_eq_true rfl⟩ (by omega) (by omega) dX4_paint_17 ?_
  refine lv_istore (lv' := [(7, .int (zI ((min (w - 1) x2)))), (6, .int (zI ((max 0 x)))), (0, .ref xx), (1, .int (zI (x))), (2, .int (zI (y))), (3, .int (zI (x2))), (4, .int (zI (y2))), (5, .int (zI (ov)))]) hx hb dX4_paint_20 hl (by decide) rfl (fun ls hl => ?_)
  refine z_iconst hx hb dX4_paint_22 ?_
  refine lv_iload_n hx hb dX4_paint_23 rfl (lv_at hl 4 rfl) ?_
  refine z_mmax hx hb hml hl.1 hown hT kc_X4_15 ⟨Nat.le_of_ble_eq_true rfl, Nat.le_of_ble_eq_true rfl⟩ ⟨Nat.le_of_ble_eq_true rfl, Nat.le_of_ble_eq_true rfl⟩ (by omega) (by omega) dX4_paint_24 ?_
  refine lv_istore (lv' := [(8, .int (zI ((max 0 y)))), (7, .int (zI ((min (w - 1) x2)))), (6, .int (zI ((max 0 x)))), (0, .ref xx), (1, .int (zI (x))), (2, .int (zI (y))), (3, .int (zI (x2))), (4, .int (zI (y2))), (5, .int (zI (ov)))]) hx hb dX4_paint_27 hl (by decide) rfl (fun ls hl => ?_)
  refine lv_aload_n hx hb dX4_paint_29 rfl (lv_at hl 3 rfl) ?_
  refine gf_X4_23 hx hb hT hown hK hP 0 rfl rfl dX4_paint_30 ?_
  refine gf_X4_86 hx hb hT hown hK hP 1 rfl rfl dX4_paint_33 ?_
  refine z_iconst hx hb dX4_paint_36 ?_
  refine z_isub hx hb dX4_paint_37 ?_
  refine lv_iload hx hb dX4_paint_38 (lv_at hl 7 rfl) ?_
  refine z_mmin hx hb hml hl.1 hown hT kc_X4_9 ⟨Nat.le_of_ble_eq_true rfl, Nat.le_of_ble_eq_true rfl⟩ ⟨Nat.le_of_ble_eq_true rfl, Nat.le_of_ble_eq_true rfl⟩ (by omega) (by omega) dX4_paint_40 ?_
  refine lv_istore (lv' := [(9, .int (zI ((min (h - 1) y2)))), (8, .int (zI ((max 0 y)))), (7, .int (zI ((min (w - 1) x2)))), (6, .int (zI ((max 0 x)))), (0, .ref xx), (1, .int (zI (x))), (2, .int (zI (y))), (3, .int (zI (x2))), (4, .int (zI (y2))), (5, .int (zI (ov)))]) hx hb dX4_paint_43 hl (by decide) rfl (fun ls hl => ?_)
  refine z_iconst hx hb dX4_paint_45 ?_
  refine z_top ((cntB (wC (inRc x y x2 y2 w) w 0 (max 0 y)) pts.toNat)) ((cntB_none _ (fun p9 h1 h2 => wC_f (h := h) (by omega) (by omega) (fun _ _ _ => by omega))).symm) ?_
  refine lv_istore (lv' := [(10, .int (zI ((cntB (wC (inRc x y x2 y2 w) w 0 (max 0 y)) pts.toNat)))), (9, .int (zI ((min (h - 1) y2)))), (8, .int (zI ((max 0 y)))), (7, .int (zI ((min (w - 1) x2)))), (6, .int (zI ((max 0 x)))), (0, .ref xx), (1, .int (zI (x))), (2, .int (zI (y))), (3, .int (zI (x2))), (4, .int (zI (y2))), (5, .int (zI (ov)))]) hx hb dX4_paint_46 hl (by decide) rfl (fun ls hl => ?_)
  refine lv_iload hx hb dX4_paint_48 (lv_at hl 2 rfl) ?_
  refine lv_istore (lv' := [(11, .int (zI ((max 0 y)))), (10, .int (zI ((cntB (wC (inRc x y x2 y2 w) w 0 (max 0 y)) pts.toNat)))), (9, .int (zI ((min (h - 1) y2)))), (8, .int (zI ((max 0 y)))), (7, .int (zI ((min (w - 1) x2)))), (6, .int (zI ((max 0 x)))), (0, .ref xx), (1, .int (zI (x))), (2, .int (zI (y))), (3, .int (zI (x2))), (4, .int (zI (y2))), (5, .int (zI (ov)))]) hx hb dX4_paint_50 hl (by decide) rfl (fun ls hl => ?_)
  have hP : zP G (xL G xx pg ik mx co pa cv ca cb ar nx w h pts cnt most rch M C (PA P pts (wC (inRc x y x2 y2 w) w 0 (max 0 y)) (ptF C ov cnt most)) cc L V F) s.heap := by rw [show (PA P pts (wC (inRc x y x2 y2 w) w 0 (max 0 y)) (ptF C ov cnt most)) = P from PA_0 P _ (by omega) (fun p9 h1 h2 => wC_f (h := h) (by omega) (by omega) (fun _ _ _ => by omega))]; exact hP
  have hD : va_D A (xL G xx pg ik mx co pa cv ca cb ar nx w h pts cnt most rch M C (PA P pts (wC (inRc x y x2 y2 w) w 0 (max 0 y)) (ptF C ov cnt most)) cc L V F) := by rw [show (PA P pts (wC (inRc x y x2 y2 w) w 0 (max 0 y)) (ptF C ov cnt most)) = P from PA_0 P _ (by omega) (fun p9 h1 h2 => wC_f (h := h) (by omega) (by omega) (fun _ _ _ => by omega))]; exact hD
  refine z_loopH (σ := Int × Array Slot) (fun zq => F0 m 52 (zq.2) []) (fun zq => ((max 0 y) ≤ zq.1 ∧ (zq.1 ≤ (min (h - 1) y2) + 1 ∨ zq.1 = (max 0 y))) ∧ lv_has (zq.2) 13 [(0, .ref xx), (1, .int (zI (x))), (2, .int (zI (y))), (3, .int (zI (x2))), (4, .int (zI (y2))), (5, .int (zI (ov))), (6, .int (zI ((max 0 x)))), (7, .int (zI ((min (w - 1) x2)))), (8, .int (zI ((max 0 y)))), (9, .int (zI ((min (h - 1) y2)))), (10, .int (zI ((cntB (wC (inRc x y x2 y2 w) w 0 zq.1) pts.toNat)))), (11, .int (zI (zq.1)))]) (fun zq => xL G xx pg ik mx co pa cv ca cb ar nx w h pts cnt most rch M C (PA P pts (wC (inRc x y x2 y2 w) w 0 zq.1) (ptF C ov cnt most)) cc L V F) (fun zq => ((min (h - 1) y2) + 1 - zq.1).toNat) ?_ ((max 0 y), ls) ⟨by dsimp only; omega, lv_sub hl [6, 7, 8, 9, 10, 11, 5, 4, 3, 2, 1, 0] rfl⟩ hP hD hS
  intro zq H locs hq hP hD hS ih
  obtain ⟨v, ls⟩ := zq
  obtain ⟨hI, hl⟩ := hq
  try dsimp only at hI hl ih hP hD ⊢
  have hP : zP G (xL G xx pg ik mx co pa cv ca cb ar nx w h pts cnt most rch M C (PA P pts (wC (inRc x y x2 y2 w) w 0 v) (ptF C ov cnt most)) cc L V F) H := hP
  have hD : va_D A (xL G xx pg ik mx co pa cv ca cb ar nx w h pts cnt most rch M C (PA P pts (wC (inRc x y x2 y2 w) w 0 v) (ptF C ov cnt most)) cc L V F) := hD
  have ih52 := ih
  refine lv_iload hx hb dX4_paint_52 (lv_at hl 11 rfl) ?_
  refine lv_iload hx hb dX4_paint_54 (lv_at hl 9 rfl) ?_
  refine z_icmp_gt (tgt := 107) hx hb dX4_paint_56 (by decide) (by omega) (by omega) (fun h56 => ?_) (fun h56 => ?_)
  · skip
    refine lv_iload hx hb dX4_paint_107 (lv_at hl 10 rfl) ?_
    have eP : PA P pts (inRc x y x2 y2 w) (ptF C ov cnt most) = (PA P pts (wC (inRc x y x2 y2 w) w 0 v) (ptF C ov cnt most)) := PA_congr P _ (by omega) (fun p9 h1 h2 => (wC_t (h := h) (by omega) (by omega) (fun _ _ _ => by omega)).symm)
    have eC : (cntB (wC (inRc x y x2 y2 w) w 0 v) pts.toNat) = cntB (inRc x y x2 y2 w) pts.toNat := cntB_congr _ (fun p9 h1 h2 => wC_t (h := h) (by omega) (by omega) (fun _ _ _ => by omega))
    exact z_wri () hx hb hr hlocks hK (by rw [eP]; exact hP) (by rw [eP]; exact hD) hS (trivial) (eC) dX4_paint_109
  · skip
    refine lv_iload hx hb dX4_paint_59 (lv_at hl 6 rfl) ?_
    refine lv_istore (lv' := [(12, .int (zI ((max 0 x)))), (0, .ref xx), (1, .int (zI (x))), (2, .int (zI (y))), (3, .int (zI (x2))), (4, .int (zI (y2))), (5, .int (zI (ov))), (6, .int (zI ((max 0 x)))), (7, .int (zI ((min (w - 1) x2)))), (8, .int (zI ((max 0 y)))), (9, .int (zI ((min (h - 1) y2)))), (10, .int (zI ((cntB (wC (inRc x y x2 y2 w) w 0 v) pts.toNat)))), (11, .int (zI (v)))]) hx hb dX4_paint_61 hl (by decide) rfl (fun ls hl => ?_)
    have eP : (PA P pts (wC (inRc x y x2 y2 w) w 0 v) (ptF C ov cnt most)) = (PA P pts (wC (inRc x y x2 y2 w) w (max 0 x) v) (ptF C ov cnt most)) := PA_congr P _ (by omega) (fun p9 h1 h2 => wC_eq (h := h) (by omega) (by omega) (fun _ _ _ => by omega))
    have eC : (cntB (wC (inRc x y x2 y2 w) w 0 v) pts.toNat) = (cntB (wC (inRc x y x2 y2 w) w (max 0 x) v) pts.toNat) := cntB_congr _ (fun p9 h1 h2 => wC_eq (h := h) (by omega) (by omega) (fun _ _ _ => by omega))
    rw [eP] at hP hD
    rw [eC] at hl
    refine z_loopH (σ := Int × Array Slot) (fun zq => F0 m 63 (zq.2) []) (fun zq => ((max 0 x) ≤ zq.1 ∧ (zq.1 ≤ (min (w - 1) x2) + 1 ∨ zq.1 = (max 0 x))) ∧ lv_has (zq.2) 13 [(0, .ref xx), (1, .int (zI (x))), (2, .int (zI (y))), (3, .int (zI (x2))), (4, .int (zI (y2))), (5, .int (zI (ov))), (6, .int (zI ((max 0 x)))), (7, .int (zI ((min (w - 1) x2)))), (8, .int (zI ((max 0 y)))), (9, .int (zI ((min (h - 1) y2)))), (10, .int (zI ((cntB (wC (inRc x y x2 y2 w) w zq.1 v) pts.toNat)))), (11, .int (zI (v))), (12, .int (zI (zq.1)))]) (fun zq => xL G xx pg ik mx co pa cv ca cb ar nx w h pts cnt most rch M C (PA P pts (wC (inRc x y x2 y2 w) w zq.1 v) (ptF C ov cnt most)) cc L V F) (fun zq => ((min (w - 1) x2) + 1 - zq.1).toNat) ?_ ((max 0 x), ls) ⟨by dsimp only; omega, lv_sub hl [1, 2, 3, 4, 5, 6, 7, 8, 9, 10, 11, 12, 0] rfl⟩ hP hD hS
    intro zq H locs hq hP hD hS ih
    obtain ⟨u, ls⟩ := zq
    obtain ⟨hI1, hl⟩ := hq
    try dsimp only at hI1 hl ih hP hD ⊢
    have hP : zP G (xL G xx pg ik mx co pa cv ca cb ar nx w h pts cnt most rch M C (PA P pts (wC (inRc x y x2 y2 w) w u v) (ptF C ov cnt most)) cc L V F) H := hP
    have hD : va_D A (xL G xx pg ik mx co pa cv ca cb ar nx w h pts cnt most rch M C (PA P pts (wC (inRc x y x2 y2 w) w u v) (ptF C ov cnt most)) cc L V F) := hD
    have ih63 := ih
    refine lv_iload hx hb dX4_paint_63 (lv_at hl 12 rfl) ?_
    refine lv_iload hx hb dX4_paint_65 (lv_at hl 7 rfl) ?_
    refine z_icmp_gt (tgt := 101) hx hb dX4_paint_67 (by decide) (by omega) (by omega) (fun h67 => ?_) (fun h67 => ?_)
    · skip
      refine lv_iinc (v := zI (v + (1))) (lv' := [(11, .int (zI (v + (1)))), (0, .ref xx), (1, .int (zI (x))), (2, .int (zI (y))), (3, .int (zI (x2))), (4, .int (zI (y2))), (5, .int (zI (ov))), (6, .int (zI ((max 0 x)))), (7, .int (zI ((min (w - 1) x2)))), (8, .int (zI ((max 0 y)))), (9, .int (zI ((min (h - 1) y2)))), (10, .int (zI ((cntB (wC (inRc x y x2 y2 w) w u v) pts.toNat)))), (12, .int (zI (u)))]) hx hb dX4_paint_101 hl (k := 11) rfl (zI_add _ _) (by decide) rfl (fun ls hl => ?_)
      refine z_goto (tgt := 52) hx hb dX4_paint_104 (by decide) ?_
      have eP : (PA P pts (wC (inRc x y x2 y2 w) w u v) (ptF C ov cnt most)) = (PA P pts (wC (inRc x y x2 y2 w) w 0 (v + 1)) (ptF C ov cnt most)) := PA_congr P _ (by omega) (fun p9 h1 h2 => wC_eq (h := h) (by omega) (by omega) (fun _ _ _ => by omega))
      have eC : (cntB (wC (inRc x y x2 y2 w) w u v) pts.toNat) = (cntB (wC (inRc x y x2 y2 w) w 0 (v + 1)) pts.toNat) := cntB_congr _ (fun p9 h1 h2 => wC_eq (h := h) (by omega) (by omega) (fun _ _ _ => by omega))
      rw [eP] at hP hD
      rw [eC] at hl
      exact ih52 (v + 1, ls) _ _ ⟨by dsimp only; omega, lv_sub hl [1, 2, 3, 4, 5, 6, 7, 8, 9, 10, 11, 0] rfl⟩ (by omega) hP hD hS
    · skip
      have hpc := pt_b (w := w) (h := h) (x := u) (y := v) (by omega) (by omega)
      have hqr := qr (a := v) (b := w) (r := u) (by omega) (by omega)
      have hxm : (u + (w * v)) % w = u := hqr.1
      have hxd : (u + (w * v)) / w = v := hqr.2
      have hWt : (inRc x y x2 y2 w) (u + (w * v)) = true := rc_iff.mpr (by rw [hxm, hxd]; omega)
      have hg0 : (wC (inRc x y x2 y2 w) w u v) (u + (w * v)) = false := by unfold wC; rw [hxm, hxd, decide_eq_false (by omega)]; exact Bool.and_false _
      have hg1 : (wC (inRc x y x2 y2 w) w (u + 1) v) (u + (w * v)) = true := by unfold wC; rw [hxm, hxd, hWt, decide_eq_true (by omega)]; rfl
      have hgr : ∀ p, 0 ≤ p → p < pts → p ≠ (u + (w * v)) → (wC (inRc x y x2 y2 w) w (u + 1) v) p = (wC (inRc x y x2 y2 w) w u v) p := fun p h1 h2 h3 => wC_eq (h := h) (by omega) (by omega) (fun a1 a2 _ => by have a3 : ¬ (p / w = v ∧ p % w = u) := (fun a4 => h3 (by have a5 := Int.mul_ediv_add_emod p w; rw [a4.1, a4.2] at a5; omega)); omega)
      have hcs := cntB_one hg0 hg1 pts.toNat (by omega) (by omega) (fun p h1 h2 h3 => hgr p h1 (by omega) h3)
      have hcb9 := cntB_b (wC (inRc x y x2 y2 w) w u v) pts.toNat
      have hP1 := PA_b (f := (wC (inRc x y x2 y2 w) w u v)) (pts := pts) (by omega) hB (fun b9 hb9 => ptF_b (ov := ov) hC hcnt hmost.1 hb9)
      refine lv_aload_n hx hb dX4_paint_70 rfl (lv_at hl 0 rfl) ?_
      refine gf_X4_23 hx hb hT hown hK hP 0 rfl rfl dX4_paint_71 ?_
      refine lv_iload hx hb dX4_paint_74 (lv_at hl 12 rfl) ?_
      refine lv_aload_n hx hb dX4_paint_76 rfl (lv_at hl 0 rfl) ?_
      refine gf_X4_23 hx hb hT hown hK hP 0 rfl rfl dX4_paint_77 ?_
      refine gf_X4_83 hx hb hT hown hK hP 1 rfl rfl dX4_paint_80 ?_
      refine lv_iload hx hb dX4_paint_83 (lv_at hl 11 rfl) ?_
      refine z_imul hx hb dX4_paint_85 ?_
      refine z_iadd hx hb dX4_paint_86 ?_
      refine lv_iload hx hb dX4_paint_87 (lv_at hl 5 rfl) ?_
      refine z_wVv (q0 := 0) (G := G) (X := xL G xx pg ik mx co pa cv ca cb ar nx w h pts cnt most rch M C (PA P pts (wC (inRc x y x2 y2 w) w u v) (ptF C ov cnt most)) cc L V F) (pl := []) (As := [.int (zI ((u + (w * v)))), .int (zI (ov))]) (rest := []) hx hb hml hown hT hK (c_X3_paintPoint l G pg ik mx co pa w h pts cnt most rch M C (PA P pts (wC (inRc x y x2 y2 w) w u v) (ptF C ov cnt most)) ((u + (w * v))) (ov) (pgOK_P hp hP1) (by omega) (by omega)) kc_X4_89 ⟨Nat.le_of_ble_eq_true rfl, Nat.le_of_ble_eq_true rfl⟩ ⟨Nat.le_of_ble_eq_true rfl, Nat.le_of_ble_eq_true rfl⟩ hP hD hS hA [1, 2, 3, 4, 5] [0, 6, 7, 8, 9] (wr := [(xx, .inr (5, [.ref pg, .ref cv, .ref ar, .int (zI (nx))])), (cv, .inr (2, [.ref ca, .ref cb, .int (zI (cc))])), ia G ca 12 L, ia G cb 12 V, aq G ar 6 F]) rfl rfl rfl rfl (by decide) rfl rfl rfl rfl hl.1 rfl (Nat.le_of_ble_eq_true rfl) dX4_paint_89 (fun u9 H locs hok9 hP hD hS => ?_)
      have hP : zP G (xL G xx pg ik mx co pa cv ca cb ar nx w h pts cnt most rch M C (PS (PA P pts (wC (inRc x y x2 y2 w) w u v) (ptF C ov cnt most)) pts (u + (w * v)) (ptF C ov cnt most (colP (PA P pts (wC (inRc x y x2 y2 w) w u v) (ptF C ov cnt most)) pts (u + (w * v))))) cc L V F) H := va_P.sub hP [0, 5, 6, 7, 8, 9, 1, 2, 3, 4] rfl
      have hD : va_D A (xL G xx pg ik mx co pa cv ca cb ar nx w h pts cnt most rch M C (PS (PA P pts (wC (inRc x y x2 y2 w) w u v) (ptF C ov cnt most)) pts (u + (w * v)) (ptF C ov cnt most (colP (PA P pts (wC (inRc x y x2 y2 w) w u v) (ptF C ov cnt most)) pts (u + (w * v))))) cc L V F) := va_D.sub hD [0, 5, 6, 7, 8, 9, 1, 2, 3, 4] (by decide) rfl
      rw [show PS (PA P pts (wC (inRc x y x2 y2 w) w u v) (ptF C ov cnt most)) pts (u + (w * v)) (ptF C ov cnt most (colP (PA P pts (wC (inRc x y x2 y2 w) w u v) (ptF C ov cnt most)) pts (u + (w * v)))) = (PA P pts (wC (inRc x y x2 y2 w) w (u + 1) v) (ptF C ov cnt most)) from PA_step P (ptF_ext C hcnt ov most) (by omega) hg0 hg1 hgr] at hP hD
      refine lv_iinc (v := zI ((cntB (wC (inRc x y x2 y2 w) w u v) pts.toNat) + (1))) (lv' := [(10, .int (zI ((cntB (wC (inRc x y x2 y2 w) w u v) pts.toNat) + (1)))), (0, .ref xx), (1, .int (zI (x))), (2, .int (zI (y))), (3, .int (zI (x2))), (4, .int (zI (y2))), (5, .int (zI (ov))), (6, .int (zI ((max 0 x)))), (7, .int (zI ((min (w - 1) x2)))), (8, .int (zI ((max 0 y)))), (9, .int (zI ((min (h - 1) y2)))), (11, .int (zI (v))), (12, .int (zI (u)))]) hx hb dX4_paint_92 hl (k := 10) rfl (zI_add _ _) (by decide) rfl (fun ls hl => ?_)
      refine lv_iinc (v := zI (u + (1))) (lv' := [(12, .int (zI (u + (1)))), (10, .int (zI ((cntB (wC (inRc x y x2 y2 w) w u v) pts.toNat) + (1)))), (0, .ref xx), (1, .int (zI (x))), (2, .int (zI (y))), (3, .int (zI (x2))), (4, .int (zI (y2))), (5, .int (zI (ov))), (6, .int (zI ((max 0 x)))), (7, .int (zI ((min (w - 1) x2)))), (8, .int (zI ((max 0 y)))), (9, .int (zI ((min (h - 1) y2)))), (11, .int (zI (v)))]) hx hb dX4_paint_95 hl (k := 12) rfl (zI_add _ _) (by decide) rfl (fun ls hl => ?_)
      refine z_goto (tgt := 63) hx hb dX4_paint_98 (by decide) ?_
      rw [show (cntB (wC (inRc x y x2 y2 w) w u v) pts.toNat) + 1 = (cntB (wC (inRc x y x2 y2 w) w (u + 1) v) pts.toNat) from hcs.symm] at hl
      exact ih63 (u + 1, ls) _ _ ⟨by dsimp only; omega, lv_sub hl [2, 3, 4, 5, 6, 7, 8, 9, 10, 11, 1, 12, 0] rfl⟩ (by omega) hP hD hS

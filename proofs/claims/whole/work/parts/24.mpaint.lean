/-! ===== painting a rectangle: the points that are painted so far, by their numbers ===== -/
def inRc (x y x2 y2 w : Int) (p : Int) : Bool := decide (x ≤ p % w ∧ p % w ≤ x2 ∧ y ≤ p / w ∧ p / w ≤ y2)
def wB (f : Int → Bool) (n : Int) : Int → Bool := fun p => f p && decide (p < n)
def YA (Y : Int → Int) (w h : Int) (f : Int → Bool) (F : (Int → Int) → (Int → Int)) : Int → Int := fun j => if 0 ≤ j ∧ j / 8 % 16 < w ∧ j / 8 / 16 < h ∧ f (j / 8 % 16 + w * (j / 8 / 16)) = true then F (colY Y (j / 8)) (j % 8) else Y j
theorem j8 {q k : Int} (hk : 0 ≤ k ∧ k < 8) : (8 * q + k) / 8 = q ∧ (8 * q + k) % 8 = k := by omega
theorem q16 {u v : Int} (hu : 0 ≤ u ∧ u < 16) : (16 * v + u) / 16 = v ∧ (16 * v + u) % 16 = u := by omega
theorem uw_inj {w u v u' v' : Int} (hu : 0 ≤ u ∧ u < w) (hu' : 0 ≤ u' ∧ u' < w) (e : u + w * v = u' + w * v') : u = u' ∧ v = v' := by
  have h1 := qr (a := v) (b := w) (r := u) (by omega) hu
  have h2 := qr (a := v') (b := w) (r := u') (by omega) hu'
  rw [e] at h1
  exact ⟨h1.1.symm.trans h2.1, h1.2.symm.trans h2.2⟩
theorem YA_congr (Y : Int → Int) {w h : Int} {f g : Int → Bool} (F : (Int → Int) → (Int → Int)) (hw : 1 ≤ w) (hh : 1 ≤ h) (e : ∀ p, 0 ≤ p → p < w * h → f p = g p) : YA Y w h f F = YA Y w h g F := by
  funext j
  unfold YA
  by_cases c : 0 ≤ j ∧ j / 8 % 16 < w ∧ j / 8 / 16 < h
  · have hp := pt_b (w := w) (h := h) (x := j / 8 % 16) (y := j / 8 / 16) (by omega) (by omega)
    rw [e _ hp.1 hp.2]
  · rw [if_neg (by omega), if_neg (by omega)]
theorem YA_0 (Y : Int → Int) {w h : Int} {f : Int → Bool} (F : (Int → Int) → (Int → Int)) (hw : 1 ≤ w) (hh : 1 ≤ h) : YA Y w h (wB f 0) F = Y := by
  funext j
  unfold YA
  refine if_neg ?_
  intro c
  have hp := pt_b (w := w) (h := h) (x := j / 8 % 16) (y := j / 8 / 16) (by omega) (by omega)
  have h1 := c.2.2.2
  unfold wB at h1
  rw [decide_eq_false (by omega)] at h1
  simp at h1
theorem YA_col (Y : Int → Int) {w h : Int} {f : Int → Bool} (F : (Int → Int) → (Int → Int)) {u v : Int} (hu : 0 ≤ u ∧ u < w) (hw : w ≤ 16) (hv : 0 ≤ v ∧ v < h) (hf : f (u + w * v) = false) : ∀ k, 0 ≤ k → k < 8 → colY (YA Y w h f F) (16 * v + u) k = colY Y (16 * v + u) k := by
  intro k h1 h2
  have e1 := j8 (q := 16 * v + u) ⟨h1, h2⟩
  have e2 := q16 (u := u) (v := v) (by omega)
  show YA Y w h f F (8 * (16 * v + u) + k) = Y (8 * (16 * v + u) + k)
  unfold YA
  rw [e1.1, e2.1, e2.2]
  refine if_neg ?_
  intro c; rw [hf] at c; cases c.2.2.2
theorem YA_step (Y : Int → Int) {w h : Int} {f g : Int → Bool} {F : (Int → Int) → (Int → Int)} (hF : ∀ b b', (∀ k, 0 ≤ k → k < 8 → b k = b' k) → ∀ k, 0 ≤ k → k < 8 → F b k = F b' k) {u v : Int} (hu : 0 ≤ u ∧ u < w) (hw : w ≤ 16) (hv : 0 ≤ v ∧ v < h) (hf : f (u + w * v) = false) (hg : g (u + w * v) = true) (hr : ∀ p, p ≠ u + w * v → g p = f p) : YS (YA Y w h f F) (16 * v + u) (F (colY (YA Y w h f F) (16 * v + u))) = YA Y w h g F := by
  have hc := YA_col Y F hu hw hv hf
  have e2 := q16 (u := u) (v := v) (by omega)
  funext j
  by_cases c : 8 * (16 * v + u) ≤ j ∧ j < 8 * (16 * v + u) + 8
  · have e3 : j / 8 = 16 * v + u := by omega
    have e4 : j - 8 * (16 * v + u) = j % 8 := by omega
    unfold YS YA
    rw [if_pos c, e3, e2.1, e2.2, if_pos ⟨by omega, by omega, by omega, hg⟩, e4]
    exact hF _ _ hc _ (by omega) (by omega)
  · unfold YS
    rw [if_neg c]
    unfold YA
    by_cases d : 0 ≤ j ∧ j / 8 % 16 < w ∧ j / 8 / 16 < h
    · have hne : j / 8 % 16 + w * (j / 8 / 16) ≠ u + w * v := fun e => by
        have h1 := uw_inj (by omega) hu e
        omega
      rw [hr _ hne]
    · rw [if_neg (by omega), if_neg (by omega)]
theorem YA_b {Y : Int → Int} {w h : Int} {f : Int → Bool} {F : (Int → Int) → (Int → Int)} (hB : ∀ j, 0 ≤ Y j ∧ Y j ≤ 255) (hF : ∀ b : Int → Int, (∀ k, 0 ≤ k → k < 8 → 0 ≤ b k ∧ b k ≤ 255) → ∀ k, 0 ≤ k → k < 8 → 0 ≤ F b k ∧ F b k ≤ 255) : ∀ j, 0 ≤ YA Y w h f F j ∧ YA Y w h f F j ≤ 255 := by
  intro j
  unfold YA
  split
  · exact hF _ (fun k _ _ => hB _) _ (by omega) (by omega)
  · exact hB j
def Fm (C : Int → Int) (ov cnt most : Int) (b : Int → Int) : Int → Int := bdF (pnF C ov b cnt) most
theorem bdF_ext {b b' : Int → Int} {most : Int} (h : ∀ k, 0 ≤ k → k < 8 → b k = b' k) : ∀ k, 0 ≤ k → k < 8 → bdF b most k = bdF b' most k := by
  intro k h1 h2
  unfold bdF
  rw [zsum_congr (f := b) (g := b') 8 (fun k h3 h4 => h k h3 (by omega))]
  split
  · exact h k h1 h2
  · exact shrF_ext (by omega) (mvF_ext h) k h1 h2
theorem pnF_ext {C b b' : Int → Int} {ov n : Int} (h : ∀ k, 0 ≤ k → k < 8 → b k = b' k) : ∀ k, 0 ≤ k → k < 8 → pnF C ov b n k = pnF C ov b' n k := by
  intro k h1 h2
  unfold pnF; rw [h k h1 h2]
theorem Fm_ext (C : Int → Int) (ov cnt most : Int) : ∀ b b', (∀ k, 0 ≤ k → k < 8 → b k = b' k) → ∀ k, 0 ≤ k → k < 8 → Fm C ov cnt most b k = Fm C ov cnt most b' k := fun b b' h k h1 h2 => bdF_ext (pnF_ext h) k h1 h2
theorem bdF_b {b : Int → Int} {most : Int} (hm : 0 ≤ most) (hb : ∀ k, 0 ≤ k → k < 8 → 0 ≤ b k ∧ b k ≤ 255) : ∀ k, 0 ≤ k → k < 8 → 0 ≤ bdF b most k ∧ bdF b most k ≤ 255 := by
  have h2 : 0 ≤ zsum b 8 ∧ zsum b 8 ≤ 2040 := pt_sum (cnt := 8) (by omega) hb
  intro k h3 h4
  unfold bdF
  split
  · exact hb k h3 h4
  · exact shrF_b (by omega) hm (mvF_b hb (by omega)) k h3 h4
theorem Fm_b {C : Int → Int} {ov cnt most : Int} (hC : ∀ j, -1 ≤ C j ∧ C j ≤ 255) (hm : 0 ≤ most) : ∀ b : Int → Int, (∀ k, 0 ≤ k → k < 8 → 0 ≤ b k ∧ b k ≤ 255) → ∀ k, 0 ≤ k → k < 8 → 0 ≤ Fm C ov cnt most b k ∧ Fm C ov cnt most b k ≤ 255 := fun b hb => bdF_b hm (pnF_b hC hb)
theorem norm_bd {Y b : Int → Int} {q most : Int} : YS (YS Y q b) q (bdF (colY (YS Y q b) q) most) = YS Y q (bdF b most) := by
  rw [YS_YS]; exact YS_ext _ (bdF_ext (fun k h1 h2 => YS_at Y b ⟨h1, h2⟩))

theorem wB_n {f : Int → Bool} {n m p : Int} (hf : f n = false) (hm : m = n + 1) : wB f n p = wB f m p := by
  unfold wB
  by_cases e : p = n
  · rw [e, hf]; rfl
  · rw [decide_eq_decide.mpr (show p < n ↔ p < m by omega)]
theorem wB_r {f : Int → Bool} {n m p : Int} (hm : m = n + 1) (e : p ≠ n) : wB f m p = wB f n p := by
  unfold wB
  rw [decide_eq_decide.mpr (show p < m ↔ p < n by omega)]
theorem wB_at {f : Int → Bool} {n : Int} : wB f n n = false := by unfold wB; rw [decide_eq_false (by omega)]; simp
theorem wB_up {f : Int → Bool} {n m : Int} (hf : f n = true) (hm : m = n + 1) : wB f m n = true := by unfold wB; rw [hf, decide_eq_true (by omega)]; rfl
set_option maxHeartbeats 4000000 in
set_option maxRecDepth 100000 in
theorem c_X5_paint (l : Launch) (G : zG) (md ma mb mc mt m1 m2 m3 m4 m5 m6 m7 : Nat) (th w h cnt most rch tl nc : Int) (M Y C T CA CB CN CG CS Z K : Int → Int) (x y x2 y2 ov : Int) (hm : mdOK w h cnt most rch tl nc M Y C T CN CG CS K) (hx : -2147483648 ≤ x ∧ x ≤ 2147483647) (hy : -2147483648 ≤ y ∧ y ≤ 2147483647) (hx2 : -2147483648 ≤ x2 ∧ x2 ≤ 2147483647) (hy2 : -2147483648 ≤ y2 ∧ y2 ≤ 2147483647) (hov : 0 ≤ ov ∧ ov ≤ 1) : zWi l yX5_paint cX5_paint 12 (some .int) { frames := 2, cells := 0, slots := 0, locals := 50 } G [.ref md, .int (zI (x)), .int (zI (y)), .int (zI (x2)), .int (zI (y2)), .int (zI (ov))] (mdL G md ma mb mc mt m1 m2 m3 m4 m5 m6 m7 th w h cnt most rch tl nc M Y C T CA CB CN CG CS Z K) (S := Unit) (fun u => cntB (inRc x y x2 y2 w) (w * h).toNat) (fun u => True) (fun u => mdL G md ma mb mc mt m1 m2 m3 m4 m5 m6 m7 0 w h cnt most rch tl nc M (YA Y w h (inRc x y x2 y2 w) (Fm C ov cnt most)) C T CA CB CN CG CS Z K) := by
  intro sz
  refine Met.ofW (cc := cX5_paint) (maxL := 12) (ret := (some .int)) (by decide) rfl ?_
  intro p e s m args below meth c s₁ B hml hv
  obtain ⟨rfl, hsz, hP, hK, hD0⟩ := hv
  have hx := B.exec
  have hb := B.bytes
  have hr := B.returns
  have hT : ∀ w ∈ TB, w.before _ s = true := fun w h => atoms_spec (ws := Cond.code yX5_paint cX5_paint 12 (some .int) :: TB) B.pre w (List.mem_cons_of_mem _ h)
  have hown : s.vm.findClass RX5 = some m.cls := findClass_of_methodNamed B.named
  have hlocks := B.notSynchronized
  subst hsz
  have hD := hD0.self (sz := s.heap.size)
  generalize hAe : va_A (mdL G md ma mb mc mt m1 m2 m3 m4 m5 m6 m7 th w h cnt most rch tl nc M Y C T CA CB CN CG CS Z K) s.heap.size = A at hD ⊢
  have hA : ∀ q : Nat, s.heap.size ≤ q → A q := fun q h => by rw [← hAe]; exact Or.inr h
  have hS : va_S A s.heap s.heap [] := va_S.rf
  have hP : zP G (mdL G md ma mb mc mt m1 m2 m3 m4 m5 m6 m7 th w h cnt most rch tl nc M Y C T CA CB CN CG CS Z K) s.heap := hP
  have hD : va_D A (mdL G md ma mb mc mt m1 m2 m3 m4 m5 m6 m7 th w h cnt most rch tl nc M Y C T CA CB CN CG CS Z K) := hD
  have hl := lv_entry ([.ref md, .int (zI (x)), .int (zI (y)), .int (zI (x2)), .int (zI (y2)), .int (zI (ov))]) (n := 12) (Nat.le_of_ble_eq_true rfl)
  rw [lg_entry_eq]
  generalize (lg_sl ([.ref md, .int (zI (x)), .int (zI (y)), .int (zI (x2)), .int (zI (y2)), .int (zI (ov))]) ++ List.replicate (12 - (lg_sl ([.ref md, .int (zI (x)), .int (zI (y)), .int (zI (x2)), .int (zI (y2)), .int (zI (ov))])).length) Slot.unset).toArray = ls at hl ⊢
  have hl : lv_has ls 12 [(0, .ref md), (1, .int (zI (x))), (2, .int (zI (y))), (3, .int (zI (x2))), (4, .int (zI (y2))), (5, .int (zI (ov)))] := hl
  obtain ⟨hw, hh, hcnt, hmost, hrch, hM, hY, hC, hTb, hT0, hT5, htl, hnc, hcl, hKb⟩ := id hm
  have hpt := md_pts hm
  have hPb : ∀ j, 0 ≤ PPf Y w (w * h) j ∧ PPf Y w (w * h) j ≤ 255 := fun j => hY _
  refine lv_aload_n hx hb dX5_paint_0 rfl (lv_at hl 0 rfl) ?_
  refine z_iconst hx hb dX5_paint_1 ?_
  refine pf_X5_62 (ws' := mdL G md ma mb mc mt m1 m2 m3 m4 m5 m6 m7 0 w h cnt most rch tl nc M Y C T CA CB CN CG CS Z K) hx hb hT hown hK hP hD hS 0 rfl (Nat.le_of_ble_eq_true rfl) rfl rfl rfl dX5_paint_2 (fun H locs hP hD hS => ?_)
  refine z_iconst hx hb dX5_paint_5 ?_
  refine z_top (cntB (inRc x y x2 y2 w) (w * 0).toNat) (by rw [Int.mul_zero]; rfl) ?_
  refine lv_istore (lv' := [(6, .int (zI (cntB (inRc x y x2 y2 w) (w * 0).toNat))), (0, .ref md), (1, .int (zI (x))), (2, .int (zI (y))), (3, .int (zI (x2))), (4, .int (zI (y2))), (5, .int (zI (ov)))]) hx hb dX5_paint_6 hl (by decide) rfl (fun ls hl => ?_)
  refine z_iconst hx hb dX5_paint_8 ?_
  refine lv_istore (lv' := [(7, .int (zI (0))), (6, .int (zI (cntB (inRc x y x2 y2 w) (w * 0).toNat))), (0, .ref md), (1, .int (zI (x))), (2, .int (zI (y))), (3, .int (zI (x2))), (4, .int (zI (y2))), (5, .int (zI (ov)))]) hx hb dX5_paint_9 hl (by decide) rfl (fun ls hl => ?_)
  have hP : zP G (mdL G md ma mb mc mt m1 m2 m3 m4 m5 m6 m7 0 w h cnt most rch tl nc M (YA Y w h (wB (inRc x y x2 y2 w) (w * 0)) (Fm C ov cnt most)) C T CA CB CN CG CS Z K) H := by rw [Int.mul_zero, YA_0 Y _ (by omega) (by omega)]; exact hP
  have hD : va_D A (mdL G md ma mb mc mt m1 m2 m3 m4 m5 m6 m7 0 w h cnt most rch tl nc M (YA Y w h (wB (inRc x y x2 y2 w) (w * 0)) (Fm C ov cnt most)) C T CA CB CN CG CS Z K) := by rw [Int.mul_zero, YA_0 Y _ (by omega) (by omega)]; exact hD
  refine z_loopH (σ := Int × Array Slot) (fun zq => F0 m 11 (zq.2) []) (fun zq => (0 ≤ zq.1 ∧ zq.1 ≤ h) ∧ lv_has (zq.2) 12 [(0, .ref md), (1, .int (zI (x))), (2, .int (zI (y))), (3, .int (zI (x2))), (4, .int (zI (y2))), (5, .int (zI (ov))), (6, .int (zI (cntB (inRc x y x2 y2 w) (w * zq.1).toNat))), (7, .int (zI (zq.1)))]) (fun zq => mdL G md ma mb mc mt m1 m2 m3 m4 m5 m6 m7 0 w h cnt most rch tl nc M (YA Y w h (wB (inRc x y x2 y2 w) (w * zq.1)) (Fm C ov cnt most)) C T CA CB CN CG CS Z K) (fun zq => (h - zq.1).toNat) ?_ (0, ls) ⟨by refine ⟨?_, ?_⟩ <;> omega, lv_sub hl [2, 3, 4, 5, 6, 7, 1, 0] rfl⟩ hP hD hS
  intro zq H locs hq hP hD hS ih
  obtain ⟨v, ls⟩ := zq
  obtain ⟨hI, hl⟩ := hq
  try dsimp only at hI hl ih hP hD ⊢
  have hP : zP G (mdL G md ma mb mc mt m1 m2 m3 m4 m5 m6 m7 0 w h cnt most rch tl nc M (YA Y w h (wB (inRc x y x2 y2 w) (w * v)) (Fm C ov cnt most)) C T CA CB CN CG CS Z K) H := hP
  have hD : va_D A (mdL G md ma mb mc mt m1 m2 m3 m4 m5 m6 m7 0 w h cnt most rch tl nc M (YA Y w h (wB (inRc x y x2 y2 w) (w * v)) (Fm C ov cnt most)) C T CA CB CN CG CS Z K) := hD
  have ih11 := ih
  refine lv_iload hx hb dX5_paint_11 (lv_at hl 7 rfl) ?_
  refine lv_aload_n hx hb dX5_paint_13 rfl (lv_at hl 0 rfl) ?_
  refine gf_X5_59 hx hb hT hown hK hP 0 rfl rfl dX5_paint_14 ?_
  refine z_icmp_ge (tgt := 166) hx hb dX5_paint_17 (by decide) (by omega) (by omega) (fun h17 => ?_) (fun h17 => ?_)
  · skip
    refine lv_iload hx hb dX5_paint_166 (lv_at hl 6 rfl) ?_
    have hv9 : v = h := by omega
    have e9 : YA Y w h (inRc x y x2 y2 w) (Fm C ov cnt most) = (YA Y w h (wB (inRc x y x2 y2 w) (w * v)) (Fm C ov cnt most)) := YA_congr Y _ (by omega) (by omega) (fun p9 h1 h2 => by unfold wB; rw [hv9, decide_eq_true h2, Bool.and_true])
    exact z_wri () hx hb hr hlocks hK (by rw [e9]; exact hP) (by rw [e9]; exact hD) hS (trivial) (by rw [hv9]) dX5_paint_168
  · skip
    refine z_iconst hx hb dX5_paint_20 ?_
    refine lv_istore (lv' := [(8, .int (zI (0))), (0, .ref md), (1, .int (zI (x))), (2, .int (zI (y))), (3, .int (zI (x2))), (4, .int (zI (y2))), (5, .int (zI (ov))), (6, .int (zI (cntB (inRc x y x2 y2 w) (w * v).toNat))), (7, .int (zI (v)))]) hx hb dX5_paint_21 hl (by decide) rfl (fun ls hl => ?_)
    rw [show w * v = 0 + w * v by omega] at hl hP hD
    refine z_loopH (σ := Int × Array Slot) (fun zq => F0 m 23 (zq.2) []) (fun zq => (0 ≤ zq.1 ∧ zq.1 ≤ w) ∧ lv_has (zq.2) 12 [(0, .ref md), (1, .int (zI (x))), (2, .int (zI (y))), (3, .int (zI (x2))), (4, .int (zI (y2))), (5, .int (zI (ov))), (6, .int (zI (cntB (inRc x y x2 y2 w) (zq.1 + w * v).toNat))), (7, .int (zI (v))), (8, .int (zI (zq.1)))]) (fun zq => mdL G md ma mb mc mt m1 m2 m3 m4 m5 m6 m7 0 w h cnt most rch tl nc M (YA Y w h (wB (inRc x y x2 y2 w) (zq.1 + w * v)) (Fm C ov cnt most)) C T CA CB CN CG CS Z K) (fun zq => (w - zq.1).toNat) ?_ (0, ls) ⟨by refine ⟨?_, ?_⟩ <;> omega, lv_sub hl [1, 2, 3, 4, 5, 6, 7, 8, 0] rfl⟩ hP hD hS
    intro zq H locs hq hP hD hS ih
    obtain ⟨u, ls⟩ := zq
    obtain ⟨hI1, hl⟩ := hq
    try dsimp only at hI1 hl ih hP hD ⊢
    have hP : zP G (mdL G md ma mb mc mt m1 m2 m3 m4 m5 m6 m7 0 w h cnt most rch tl nc M (YA Y w h (wB (inRc x y x2 y2 w) (u + w * v)) (Fm C ov cnt most)) C T CA CB CN CG CS Z K) H := hP
    have hD : va_D A (mdL G md ma mb mc mt m1 m2 m3 m4 m5 m6 m7 0 w h cnt most rch tl nc M (YA Y w h (wB (inRc x y x2 y2 w) (u + w * v)) (Fm C ov cnt most)) C T CA CB CN CG CS Z K) := hD
    have ih23 := ih
    refine lv_iload hx hb dX5_paint_23 (lv_at hl 8 rfl) ?_
    refine lv_aload_n hx hb dX5_paint_25 rfl (lv_at hl 0 rfl) ?_
    refine gf_X5_56 hx hb hT hown hK hP 0 rfl rfl dX5_paint_26 ?_
    refine z_icmp_ge (tgt := 160) hx hb dX5_paint_29 (by decide) (by omega) (by omega) (fun h29 => ?_) (fun h29 => ?_)
    · skip
      refine lv_iinc (v := zI (v + (1))) (lv' := [(7, .int (zI (v + (1)))), (0, .ref md), (1, .int (zI (x))), (2, .int (zI (y))), (3, .int (zI (x2))), (4, .int (zI (y2))), (5, .int (zI (ov))), (6, .int (zI (cntB (inRc x y x2 y2 w) (u + w * v).toNat))), (8, .int (zI (u)))]) hx hb dX5_paint_160 hl (k := 7) rfl (zI_add _ _) (by decide) rfl (fun ls hl => ?_)
      refine z_goto (tgt := 11) hx hb dX5_paint_163 (by decide) ?_
      have hmu := Int.mul_add w v 1
      rw [show (u + w * v) = w * (v + 1) by omega] at hl hP hD
      exact ih11 (v + 1, ls) _ _ ⟨by refine ⟨?_, ?_⟩ <;> omega, lv_sub hl [1, 2, 3, 4, 5, 6, 7, 0] rfl⟩ (by omega) hP hD hS
    · skip
      have hpc := pt_b (w := w) (h := h) (x := u) (y := v) (by omega) (by omega)
      have hqr := qr (a := v) (b := w) (r := u) (by omega) (by omega)
      have hxm : (u + w * v) % w = u := hqr.1
      have hxd : (u + w * v) / w = v := hqr.2
      have hcb9 := cntB_b (inRc x y x2 y2 w) (u + w * v).toNat
      refine lv_iload hx hb dX5_paint_32 (lv_at hl 8 rfl) ?_
      refine lv_iload_n hx hb dX5_paint_34 rfl (lv_at hl 1 rfl) ?_
      refine z_icmp_lt (tgt := 154) hx hb dX5_paint_35 (by decide) (by omega) (by omega) (fun h35 => ?_) (fun h35 => ?_)
      · skip
        refine lv_iinc (v := zI (u + (1))) (lv' := [(8, .int (zI (u + (1)))), (0, .ref md), (1, .int (zI (x))), (2, .int (zI (y))), (3, .int (zI (x2))), (4, .int (zI (y2))), (5, .int (zI (ov))), (6, .int (zI (cntB (inRc x y x2 y2 w) (u + w * v).toNat))), (7, .int (zI (v)))]) hx hb dX5_paint_154 hl (k := 8) rfl (zI_add _ _) (by decide) rfl (fun ls hl => ?_)
        refine z_goto (tgt := 23) hx hb dX5_paint_157 (by decide) ?_
        have hWf : (inRc x y x2 y2 w) (u + w * v) = false := by unfold inRc; rw [hxm, hxd]; exact decide_eq_false (by omega)
        have hcs := cntB_s (inRc x y x2 y2 w) (k := (u + w * v)) (by omega)
        rw [hWf] at hcs
        rw [show (cntB (inRc x y x2 y2 w) (u + w * v).toNat : Int) = cntB (inRc x y x2 y2 w) (u + 1 + w * v).toNat by rw [show u + 1 + w * v = (u + w * v) + 1 by omega, hcs]; exact (Int.add_zero _).symm] at hl
        rw [show (YA Y w h (wB (inRc x y x2 y2 w) (u + w * v)) (Fm C ov cnt most)) = (YA Y w h (wB (inRc x y x2 y2 w) (u + 1 + w * v)) (Fm C ov cnt most)) from YA_congr Y _ (by omega) (by omega) (fun p9 _ _ => wB_n hWf (by omega))] at hP hD
        exact ih23 (u + 1, ls) _ _ ⟨by refine ⟨?_, ?_⟩ <;> omega, lv_sub hl [1, 2, 3, 4, 5, 6, 7, 8, 0] rfl⟩ (by omega) hP hD hS
      · skip
        refine lv_iload hx hb dX5_paint_38 (lv_at hl 8 rfl) ?_
        refine lv_iload_n hx hb dX5_paint_40 rfl (lv_at hl 3 rfl) ?_
        refine z_icmp_gt (tgt := 154) hx hb dX5_paint_41 (by decide) (by omega) (by omega) (fun h41 => ?_) (fun h41 => ?_)
        · skip
          refine lv_iinc (v := zI (u + (1))) (lv' := [(8, .int (zI (u + (1)))), (0, .ref md), (1, .int (zI (x))), (2, .int (zI (y))), (3, .int (zI (x2))), (4, .int (zI (y2))), (5, .int (zI (ov))), (6, .int (zI (cntB (inRc x y x2 y2 w) (u + w * v).toNat))), (7, .int (zI (v)))]) hx hb dX5_paint_154 hl (k := 8) rfl (zI_add _ _) (by decide) rfl (fun ls hl => ?_)
          refine z_goto (tgt := 23) hx hb dX5_paint_157 (by decide) ?_
          have hWf : (inRc x y x2 y2 w) (u + w * v) = false := by unfold inRc; rw [hxm, hxd]; exact decide_eq_false (by omega)
          have hcs := cntB_s (inRc x y x2 y2 w) (k := (u + w * v)) (by omega)
          rw [hWf] at hcs
          rw [show (cntB (inRc x y x2 y2 w) (u + w * v).toNat : Int) = cntB (inRc x y x2 y2 w) (u + 1 + w * v).toNat by rw [show u + 1 + w * v = (u + w * v) + 1 by omega, hcs]; exact (Int.add_zero _).symm] at hl
          rw [show (YA Y w h (wB (inRc x y x2 y2 w) (u + w * v)) (Fm C ov cnt most)) = (YA Y w h (wB (inRc x y x2 y2 w) (u + 1 + w * v)) (Fm C ov cnt most)) from YA_congr Y _ (by omega) (by omega) (fun p9 _ _ => wB_n hWf (by omega))] at hP hD
          exact ih23 (u + 1, ls) _ _ ⟨by refine ⟨?_, ?_⟩ <;> omega, lv_sub hl [1, 2, 3, 4, 5, 6, 7, 8, 0] rfl⟩ (by omega) hP hD hS
        · skip
          refine lv_iload hx hb dX5_paint_44 (lv_at hl 7 rfl) ?_
          refine lv_iload_n hx hb dX5_paint_46 rfl (lv_at hl 2 rfl) ?_
          refine z_icmp_lt (tgt := 154) hx hb dX5_paint_47 (by decide) (by omega) (by omega) (fun h47 => ?_) (fun h47 => ?_)
          · skip
            refine lv_iinc (v := zI (u + (1))) (lv' := [(8, .int (zI (u + (1)))), (0, .ref md), (1, .int (zI (x))), (2, .int (zI (y))), (3, .int (zI (x2))), (4, .int (zI (y2))), (5, .int (zI (ov))), (6, .int (zI (cntB (inRc x y x2 y2 w) (u + w * v).toNat))), (7, .int (zI (v)))]) hx hb dX5_paint_154 hl (k := 8) rfl (zI_add _ _) (by decide) rfl (fun ls hl => ?_)
            refine z_goto (tgt := 23) hx hb dX5_paint_157 (by decide) ?_
            have hWf : (inRc x y x2 y2 w) (u + w * v) = false := by unfold inRc; rw [hxm, hxd]; exact decide_eq_false (by omega)
            have hcs := cntB_s (inRc x y x2 y2 w) (k := (u + w * v)) (by omega)
            rw [hWf] at hcs
            rw [show (cntB (inRc x y x2 y2 w) (u + w * v).toNat : Int) = cntB (inRc x y x2 y2 w) (u + 1 + w * v).toNat by rw [show u + 1 + w * v = (u + w * v) + 1 by omega, hcs]; exact (Int.add_zero _).symm] at hl
            rw [show (YA Y w h (wB (inRc x y x2 y2 w) (u + w * v)) (Fm C ov cnt most)) = (YA Y w h (wB (inRc x y x2 y2 w) (u + 1 + w * v)) (Fm C ov cnt most)) from YA_congr Y _ (by omega) (by omega) (fun p9 _ _ => wB_n hWf (by omega))] at hP hD
            exact ih23 (u + 1, ls) _ _ ⟨by refine ⟨?_, ?_⟩ <;> omega, lv_sub hl [1, 2, 3, 4, 5, 6, 7, 8, 0] rfl⟩ (by omega) hP hD hS
          · skip
            refine lv_iload hx hb dX5_paint_50 (lv_at hl 7 rfl) ?_
            refine lv_iload hx hb dX5_paint_52 (lv_at hl 4 rfl) ?_
            refine z_icmp_gt (tgt := 154) hx hb dX5_paint_54 (by decide) (by omega) (by omega) (fun h54 => ?_) (fun h54 => ?_)
            · skip
              refine lv_iinc (v := zI (u + (1))) (lv' := [(8, .int (zI (u + (1)))), (0, .ref md), (1, .int (zI (x))), (2, .int (zI (y))), (3, .int (zI (x2))), (4, .int (zI (y2))), (5, .int (zI (ov))), (6, .int (zI (cntB (inRc x y x2 y2 w) (u + w * v).toNat))), (7, .int (zI (v)))]) hx hb dX5_paint_154 hl (k := 8) rfl (zI_add _ _) (by decide) rfl (fun ls hl => ?_)
              refine z_goto (tgt := 23) hx hb dX5_paint_157 (by decide) ?_
              have hWf : (inRc x y x2 y2 w) (u + w * v) = false := by unfold inRc; rw [hxm, hxd]; exact decide_eq_false (by omega)
              have hcs := cntB_s (inRc x y x2 y2 w) (k := (u + w * v)) (by omega)
              rw [hWf] at hcs
              rw [show (cntB (inRc x y x2 y2 w) (u + w * v).toNat : Int) = cntB (inRc x y x2 y2 w) (u + 1 + w * v).toNat by rw [show u + 1 + w * v = (u + w * v) + 1 by omega, hcs]; exact (Int.add_zero _).symm] at hl
              rw [show (YA Y w h (wB (inRc x y x2 y2 w) (u + w * v)) (Fm C ov cnt most)) = (YA Y w h (wB (inRc x y x2 y2 w) (u + 1 + w * v)) (Fm C ov cnt most)) from YA_congr Y _ (by omega) (by omega) (fun p9 _ _ => wB_n hWf (by omega))] at hP hD
              exact ih23 (u + 1, ls) _ _ ⟨by refine ⟨?_, ?_⟩ <;> omega, lv_sub hl [1, 2, 3, 4, 5, 6, 7, 8, 0] rfl⟩ (by omega) hP hD hS
            · skip
              have hWt : (inRc x y x2 y2 w) (u + w * v) = true := by unfold inRc; rw [hxm, hxd]; exact decide_eq_true (by omega)
              have hcs := cntB_s (inRc x y x2 y2 w) (k := (u + w * v)) (by omega)
              have hY1 := YA_b (w := w) (h := h) (f := wB (inRc x y x2 y2 w) (u + w * v)) hY (Fm_b (ov := ov) (cnt := cnt) hC hmost.1)
              have hcb : ∀ k, 0 ≤ k → k < 8 → 0 ≤ (colY (YA Y w h (wB (inRc x y x2 y2 w) (u + w * v)) (Fm C ov cnt most)) (16 * v + u)) k ∧ (colY (YA Y w h (wB (inRc x y x2 y2 w) (u + w * v)) (Fm C ov cnt most)) (16 * v + u)) k ≤ 255 := fun k _ _ => hY1 _
              have hpnb := pnF_b (C := C) (ov := ov) (k := cnt) hC hcb
              refine lv_iinc (v := zI (cntB (inRc x y x2 y2 w) (u + w * v).toNat + (1))) (lv' := [(6, .int (zI (cntB (inRc x y x2 y2 w) (u + w * v).toNat + (1)))), (0, .ref md), (1, .int (zI (x))), (2, .int (zI (y))), (3, .int (zI (x2))), (4, .int (zI (y2))), (5, .int (zI (ov))), (7, .int (zI (v))), (8, .int (zI (u)))]) hx hb dX5_paint_57 hl (k := 6) rfl (zI_add _ _) (by decide) rfl (fun ls hl => ?_)
              refine z_bipush hx hb dX5_paint_60 (by decide +kernel) ?_
              refine lv_iload hx hb dX5_paint_62 (lv_at hl 7 rfl) ?_
              refine z_imul hx hb dX5_paint_64 ?_
              refine lv_iload hx hb dX5_paint_65 (lv_at hl 8 rfl) ?_
              refine z_iadd hx hb dX5_paint_67 ?_
              refine lv_istore (lv' := [(9, .int (zI (((16 * v) + u)))), (6, .int (zI (cntB (inRc x y x2 y2 w) (u + w * v).toNat + (1)))), (0, .ref md), (1, .int (zI (x))), (2, .int (zI (y))), (3, .int (zI (x2))), (4, .int (zI (y2))), (5, .int (zI (ov))), (7, .int (zI (v))), (8, .int (zI (u)))]) hx hb dX5_paint_68 hl (by decide) rfl (fun ls hl => ?_)
              refine z_iconst hx hb dX5_paint_70 ?_
              refine lv_istore (lv' := [(10, .int (zI (0))), (9, .int (zI (((16 * v) + u)))), (6, .int (zI (cntB (inRc x y x2 y2 w) (u + w * v).toNat + (1)))), (0, .ref md), (1, .int (zI (x))), (2, .int (zI (y))), (3, .int (zI (x2))), (4, .int (zI (y2))), (5, .int (zI (ov))), (7, .int (zI (v))), (8, .int (zI (u)))]) hx hb dX5_paint_71 hl (by decide) rfl (fun ls hl => ?_)
              rw [show (YA Y w h (wB (inRc x y x2 y2 w) (u + w * v)) (Fm C ov cnt most)) = YS (YA Y w h (wB (inRc x y x2 y2 w) (u + w * v)) (Fm C ov cnt most)) (16 * v + u) (pnF C ov (colY (YA Y w h (wB (inRc x y x2 y2 w) (u + w * v)) (Fm C ov cnt most)) (16 * v + u)) 0) by rw [pnF_0, YS_self]] at hP hD
              refine z_loopH (σ := Int × Array Slot) (fun zq => F0 m 73 (zq.2) []) (fun zq => (0 ≤ zq.1 ∧ zq.1 ≤ cnt) ∧ lv_has (zq.2) 12 [(0, .ref md), (1, .int (zI (x))), (2, .int (zI (y))), (3, .int (zI (x2))), (4, .int (zI (y2))), (5, .int (zI (ov))), (6, .int (zI (cntB (inRc x y x2 y2 w) (u + w * v).toNat + (1)))), (7, .int (zI (v))), (8, .int (zI (u))), (9, .int (zI (((16 * v) + u)))), (10, .int (zI (zq.1)))]) (fun zq => mdL G md ma mb mc mt m1 m2 m3 m4 m5 m6 m7 0 w h cnt most rch tl nc M (YS (YA Y w h (wB (inRc x y x2 y2 w) (u + w * v)) (Fm C ov cnt most)) (16 * v + u) (pnF C ov (colY (YA Y w h (wB (inRc x y x2 y2 w) (u + w * v)) (Fm C ov cnt most)) (16 * v + u)) zq.1)) C T CA CB CN CG CS Z K) (fun zq => (cnt - zq.1).toNat) ?_ (0, ls) ⟨by refine ⟨?_, ?_⟩ <;> omega, lv_sub hl [3, 4, 5, 6, 7, 8, 2, 9, 10, 1, 0] rfl⟩ hP hD hS
              intro zq H locs hq hP hD hS ih
              obtain ⟨k, ls⟩ := zq
              obtain ⟨hI2, hl⟩ := hq
              try dsimp only at hI2 hl ih hP hD ⊢
              have hP : zP G (mdL G md ma mb mc mt m1 m2 m3 m4 m5 m6 m7 0 w h cnt most rch tl nc M (YS (YA Y w h (wB (inRc x y x2 y2 w) (u + w * v)) (Fm C ov cnt most)) (16 * v + u) (pnF C ov (colY (YA Y w h (wB (inRc x y x2 y2 w) (u + w * v)) (Fm C ov cnt most)) (16 * v + u)) k)) C T CA CB CN CG CS Z K) H := hP
              have hD : va_D A (mdL G md ma mb mc mt m1 m2 m3 m4 m5 m6 m7 0 w h cnt most rch tl nc M (YS (YA Y w h (wB (inRc x y x2 y2 w) (u + w * v)) (Fm C ov cnt most)) (16 * v + u) (pnF C ov (colY (YA Y w h (wB (inRc x y x2 y2 w) (u + w * v)) (Fm C ov cnt most)) (16 * v + u)) k)) C T CA CB CN CG CS Z K) := hD
              have ih73 := ih
              refine lv_iload hx hb dX5_paint_73 (lv_at hl 10 rfl) ?_
              refine lv_aload_n hx hb dX5_paint_75 rfl (lv_at hl 0 rfl) ?_
              refine gf_X5_7 hx hb hT hown hK hP 0 rfl rfl dX5_paint_76 ?_
              refine z_icmp_ge (tgt := 148) hx hb dX5_paint_79 (by decide) (by omega) (by omega) (fun h79 => ?_) (fun h79 => ?_)
              · skip
                have hk4 : k = cnt := by omega
                rw [hk4] at hP hD
                refine lv_aload_n hx hb dX5_paint_148 rfl (lv_at hl 0 rfl) ?_
                refine lv_iload hx hb dX5_paint_149 (lv_at hl 9 rfl) ?_
                refine z_wVv (q0 := 0) (G := G) (X := mdL G md ma mb mc mt m1 m2 m3 m4 m5 m6 m7 0 w h cnt most rch tl nc M (YS (YA Y w h (wB (inRc x y x2 y2 w) (u + w * v)) (Fm C ov cnt most)) (16 * v + u) (pnF C ov (colY (YA Y w h (wB (inRc x y x2 y2 w) (u + w * v)) (Fm C ov cnt most)) (16 * v + u)) cnt)) C T CA CB CN CG CS Z K) (pl := []) (As := [.int (zI (((16 * v) + u)))]) (rest := []) hx hb hml hown hT hK (c_X5_bind l G md ma mb mc mt m1 m2 m3 m4 m5 m6 m7 0 w h cnt most rch tl nc M (YS (YA Y w h (wB (inRc x y x2 y2 w) (u + w * v)) (Fm C ov cnt most)) (16 * v + u) (pnF C ov (colY (YA Y w h (wB (inRc x y x2 y2 w) (u + w * v)) (Fm C ov cnt most)) (16 * v + u)) cnt)) C T CA CB CN CG CS Z K (((16 * v) + u)) (mdOK_Y hm (YS_b hY1 hpnb)) (by omega)) kc_X5_83 ⟨Nat.le_of_ble_eq_true rfl, Nat.le_of_ble_eq_true rfl⟩ ⟨Nat.le_of_ble_eq_true rfl, Nat.le_of_ble_eq_true rfl⟩ hP hD hS hA [0, 1, 2, 3, 4, 5, 6, 7, 8, 9, 10, 11] [] (wr := []) rfl rfl rfl rfl (by decide) rfl rfl rfl rfl hl.1 rfl (Nat.le_of_ble_eq_true rfl) dX5_paint_151 (fun u9 H locs hok9 hP hD hS => ?_)
                have hP : zP G (mdL G md ma mb mc mt m1 m2 m3 m4 m5 m6 m7 0 w h cnt most rch tl nc M (YS (YS (YA Y w h (wB (inRc x y x2 y2 w) (u + w * v)) (Fm C ov cnt most)) (16 * v + u) (pnF C ov (colY (YA Y w h (wB (inRc x y x2 y2 w) (u + w * v)) (Fm C ov cnt most)) (16 * v + u)) cnt)) ((16 * v) + u) (bdF (colY (YS (YA Y w h (wB (inRc x y x2 y2 w) (u + w * v)) (Fm C ov cnt most)) (16 * v + u) (pnF C ov (colY (YA Y w h (wB (inRc x y x2 y2 w) (u + w * v)) (Fm C ov cnt most)) (16 * v + u)) cnt)) ((16 * v) + u)) most)) C T CA CB CN CG CS Z K) H := hP
                have hD : va_D A (mdL G md ma mb mc mt m1 m2 m3 m4 m5 m6 m7 0 w h cnt most rch tl nc M (YS (YS (YA Y w h (wB (inRc x y x2 y2 w) (u + w * v)) (Fm C ov cnt most)) (16 * v + u) (pnF C ov (colY (YA Y w h (wB (inRc x y x2 y2 w) (u + w * v)) (Fm C ov cnt most)) (16 * v + u)) cnt)) ((16 * v) + u) (bdF (colY (YS (YA Y w h (wB (inRc x y x2 y2 w) (u + w * v)) (Fm C ov cnt most)) (16 * v + u) (pnF C ov (colY (YA Y w h (wB (inRc x y x2 y2 w) (u + w * v)) (Fm C ov cnt most)) (16 * v + u)) cnt)) ((16 * v) + u)) most)) C T CA CB CN CG CS Z K) := hD
                rw [norm_bd, show YS (YA Y w h (wB (inRc x y x2 y2 w) (u + w * v)) (Fm C ov cnt most)) (16 * v + u) (bdF (pnF C ov (colY (YA Y w h (wB (inRc x y x2 y2 w) (u + w * v)) (Fm C ov cnt most)) (16 * v + u)) cnt) most) = (YA Y w h (wB (inRc x y x2 y2 w) (u + 1 + w * v)) (Fm C ov cnt most)) from YA_step Y (Fm_ext C ov cnt most) (by omega) (by omega) (by omega) wB_at (wB_up hWt (by omega)) (fun p9 h9 => wB_r (by omega) h9)] at hP hD
                refine lv_iinc (v := zI (u + (1))) (lv' := [(8, .int (zI (u + (1)))), (0, .ref md), (1, .int (zI (x))), (2, .int (zI (y))), (3, .int (zI (x2))), (4, .int (zI (y2))), (5, .int (zI (ov))), (6, .int (zI (cntB (inRc x y x2 y2 w) (u + w * v).toNat + (1)))), (7, .int (zI (v))), (9, .int (zI (((16 * v) + u)))), (10, .int (zI (k)))]) hx hb dX5_paint_154 hl (k := 8) rfl (zI_add _ _) (by decide) rfl (fun ls hl => ?_)
                refine z_goto (tgt := 23) hx hb dX5_paint_157 (by decide) ?_
                rw [show (cntB (inRc x y x2 y2 w) (u + w * v).toNat + (1) : Int) = cntB (inRc x y x2 y2 w) (u + 1 + w * v).toNat by rw [show u + 1 + w * v = (u + w * v) + 1 by omega, hcs, hWt]; rfl] at hl
                exact ih23 (u + 1, ls) _ _ ⟨by refine ⟨?_, ?_⟩ <;> omega, lv_sub hl [1, 2, 3, 4, 5, 6, 7, 8, 0] rfl⟩ (by omega) hP hD hS
              · skip
                have hck := hC k
                have hcbk := hcb k (by omega) (by omega)
                refine lv_iload hx hb dX5_paint_82 (lv_at hl 5 rfl) ?_
                refine z_if_eq (tgt := 103) hx hb dX5_paint_84 (by decide) (by omega) (fun h84 => ?_) (fun h84 => ?_)
                · skip
                  refine z_iconst hx hb dX5_paint_103 ?_
                  refine lv_istore (lv' := [(11, .int (zI (0))), (0, .ref md), (1, .int (zI (x))), (2, .int (zI (y))), (3, .int (zI (x2))), (4, .int (zI (y2))), (5, .int (zI (ov))), (6, .int (zI (cntB (inRc x y x2 y2 w) (u + w * v).toNat + (1)))), (7, .int (zI (v))), (8, .int (zI (u))), (9, .int (zI (((16 * v) + u)))), (10, .int (zI (k)))]) hx hb dX5_paint_104 hl (by decide) rfl (fun ls hl => ?_)
                  refine lv_aload_n hx hb dX5_paint_106 rfl (lv_at hl 1 rfl) ?_
                  refine gf_X5_17 hx hb hT hown hK hP 0 rfl rfl dX5_paint_107 ?_
                  refine z_bipush hx hb dX5_paint_110 (by decide +kernel) ?_
                  refine lv_iload hx hb dX5_paint_112 (lv_at hl 10 rfl) ?_
                  refine z_imul hx hb dX5_paint_114 ?_
                  refine lv_iload hx hb dX5_paint_115 (lv_at hl 11 rfl) ?_
                  refine z_iadd hx hb dX5_paint_117 ?_
                  refine lv_aload_n hx hb dX5_paint_118 rfl (lv_at hl 1 rfl) ?_
                  refine gf_X5_20 hx hb hT hown hK hP 0 rfl rfl dX5_paint_119 ?_
                  refine lv_iload hx hb dX5_paint_122 (lv_at hl 11 rfl) ?_
                  refine z_iald hx hb hK hP 3 rfl (⟨by omega, by omega, by omega⟩) dX5_paint_124 ?_
                  refine z_iconst hx hb dX5_paint_125 ?_
                  refine z_icmp_ne (tgt := 134) hx hb dX5_paint_126 (by decide) (by omega) (by omega) (fun h126 => ?_) (fun h126 => ?_)
                  · skip
                    refine lv_aload_n hx hb dX5_paint_134 rfl (lv_at hl 1 rfl) ?_
                    refine gf_X5_20 hx hb hT hown hK hP 0 rfl rfl dX5_paint_135 ?_
                    refine lv_iload hx hb dX5_paint_138 (lv_at hl 11 rfl) ?_
                    refine z_iald hx hb hK hP 3 rfl (⟨by omega, by omega, by omega⟩) dX5_paint_140 ?_
                    refine z_iast (ws' := mdL G md ma mb mc mt m1 m2 m3 m4 m5 m6 m7 0 w h cnt most rch tl nc M (zu (YS (YA Y w h (wB (inRc x y x2 y2 w) (u + w * v)) (Fm C ov cnt most)) (16 * v + u) (pnF C ov (colY (YA Y w h (wB (inRc x y x2 y2 w) (u + w * v)) (Fm C ov cnt most)) (16 * v + u)) k)) ((8 * ((16 * v) + u)) + k) (C k)) C T CA CB CN CG CS Z K) hx hb hK hP hD hS 2 rfl (⟨by omega, by omega, by omega⟩) dX5_paint_141 rfl (fun H locs hP hD hS => ?_)
                    rw [show (zu (YS (YA Y w h (wB (inRc x y x2 y2 w) (u + w * v)) (Fm C ov cnt most)) (16 * v + u) (pnF C ov (colY (YA Y w h (wB (inRc x y x2 y2 w) (u + w * v)) (Fm C ov cnt most)) (16 * v + u)) k)) ((8 * ((16 * v) + u)) + k) (C k)) = (YS (YA Y w h (wB (inRc x y x2 y2 w) (u + w * v)) (Fm C ov cnt most)) (16 * v + u) (pnF C ov (colY (YA Y w h (wB (inRc x y x2 y2 w) (u + w * v)) (Fm C ov cnt most)) (16 * v + u)) (k + 1))) from by rw [YS_up _ _ _ (by omega), pnF_s _ _ _ (by omega) (by split <;> first | rfl | omega | (split <;> first | rfl | omega))]] at hP hD
                    refine lv_iinc (v := zI (k + (1))) (lv' := [(10, .int (zI (k + (1)))), (11, .int (zI (0))), (0, .ref md), (1, .int (zI (x))), (2, .int (zI (y))), (3, .int (zI (x2))), (4, .int (zI (y2))), (5, .int (zI (ov))), (6, .int (zI (cntB (inRc x y x2 y2 w) (u + w * v).toNat + (1)))), (7, .int (zI (v))), (8, .int (zI (u))), (9, .int (zI (((16 * v) + u))))]) hx hb dX5_paint_142 hl (k := 11) rfl (zI_add _ _) (by decide) rfl (fun ls hl => ?_)
                    refine z_goto (tgt := 73) hx hb dX5_paint_145 (by decide) ?_
                    exact ih73 (k + 1, ls) _ _ ⟨by refine ⟨?_, ?_⟩ <;> omega, lv_sub hl [2, 3, 4, 5, 6, 7, 8, 9, 10, 11, 0] rfl⟩ (by omega) hP hD hS
                  · skip
                    refine lv_iload hx hb dX5_paint_129 (lv_at hl 0 rfl) ?_
                    refine z_goto (tgt := 141) hx hb dX5_paint_131 (by decide) ?_
                    refine z_iast (ws' := mdL G md ma mb mc mt m1 m2 m3 m4 m5 m6 m7 0 w h cnt most rch tl nc M (zu (YS (YA Y w h (wB (inRc x y x2 y2 w) (u + w * v)) (Fm C ov cnt most)) (16 * v + u) (pnF C ov (colY (YA Y w h (wB (inRc x y x2 y2 w) (u + w * v)) (Fm C ov cnt most)) (16 * v + u)) k)) ((8 * ((16 * v) + u)) + k) 0) C T CA CB CN CG CS Z K) hx hb hK hP hD hS 2 rfl (⟨by omega, by omega, by omega⟩) dX5_paint_141 rfl (fun H locs hP hD hS => ?_)
                    rw [show (zu (YS (YA Y w h (wB (inRc x y x2 y2 w) (u + w * v)) (Fm C ov cnt most)) (16 * v + u) (pnF C ov (colY (YA Y w h (wB (inRc x y x2 y2 w) (u + w * v)) (Fm C ov cnt most)) (16 * v + u)) k)) ((8 * ((16 * v) + u)) + k) 0) = (YS (YA Y w h (wB (inRc x y x2 y2 w) (u + w * v)) (Fm C ov cnt most)) (16 * v + u) (pnF C ov (colY (YA Y w h (wB (inRc x y x2 y2 w) (u + w * v)) (Fm C ov cnt most)) (16 * v + u)) (k + 1))) from by rw [YS_up _ _ _ (by omega), pnF_s _ _ _ (by omega) (by split <;> first | rfl | omega | (split <;> first | rfl | omega))]] at hP hD
                    refine lv_iinc (v := zI (k + (1))) (lv' := [(10, .int (zI (k + (1)))), (11, .int (zI (0))), (0, .ref md), (1, .int (zI (x))), (2, .int (zI (y))), (3, .int (zI (x2))), (4, .int (zI (y2))), (5, .int (zI (ov))), (6, .int (zI (cntB (inRc x y x2 y2 w) (u + w * v).toNat + (1)))), (7, .int (zI (v))), (8, .int (zI (u))), (9, .int (zI (((16 * v) + u))))]) hx hb dX5_paint_142 hl (k := 11) rfl (zI_add _ _) (by decide) rfl (fun ls hl => ?_)
                    refine z_goto (tgt := 73) hx hb dX5_paint_145 (by decide) ?_
                    exact ih73 (k + 1, ls) _ _ ⟨by refine ⟨?_, ?_⟩ <;> omega, lv_sub hl [2, 3, 4, 5, 6, 7, 8, 9, 10, 11, 0] rfl⟩ (by omega) hP hD hS
                · skip
                  refine lv_aload_n hx hb dX5_paint_87 rfl (lv_at hl 0 rfl) ?_
                  refine gf_X5_17 hx hb hT hown hK hP 0 rfl rfl dX5_paint_88 ?_
                  refine z_bipush hx hb dX5_paint_91 (by decide +kernel) ?_
                  refine lv_iload hx hb dX5_paint_93 (lv_at hl 9 rfl) ?_
                  refine z_imul hx hb dX5_paint_95 ?_
                  refine lv_iload hx hb dX5_paint_96 (lv_at hl 10 rfl) ?_
                  refine z_iadd hx hb dX5_paint_98 ?_
                  refine z_iald hx hb hK hP 2 rfl (⟨by omega, by omega, by omega⟩) dX5_paint_99 ?_
                  refine z_top (((colY (YA Y w h (wB (inRc x y x2 y2 w) (u + w * v)) (Fm C ov cnt most)) (16 * v + u)) k)) (by rw [YS_at _ _ (by omega)]; unfold pnF; rw [if_neg (by omega)]) ?_
                  refine z_goto (tgt := 104) hx hb dX5_paint_100 (by decide) ?_
                  refine lv_istore (lv' := [(11, .int (zI (((colY (YA Y w h (wB (inRc x y x2 y2 w) (u + w * v)) (Fm C ov cnt most)) (16 * v + u)) k)))), (0, .ref md), (1, .int (zI (x))), (2, .int (zI (y))), (3, .int (zI (x2))), (4, .int (zI (y2))), (5, .int (zI (ov))), (6, .int (zI (cntB (inRc x y x2 y2 w) (u + w * v).toNat + (1)))), (7, .int (zI (v))), (8, .int (zI (u))), (9, .int (zI (((16 * v) + u)))), (10, .int (zI (k)))]) hx hb dX5_paint_104 hl (by decide) rfl (fun ls hl => ?_)
                  refine lv_aload_n hx hb dX5_paint_106 rfl (lv_at hl 1 rfl) ?_
                  refine gf_X5_17 hx hb hT hown hK hP 0 rfl rfl dX5_paint_107 ?_
                  refine z_bipush hx hb dX5_paint_110 (by decide +kernel) ?_
                  refine lv_iload hx hb dX5_paint_112 (lv_at hl 10 rfl) ?_
                  refine z_imul hx hb dX5_paint_114 ?_
                  refine lv_iload hx hb dX5_paint_115 (lv_at hl 11 rfl) ?_
                  refine z_iadd hx hb dX5_paint_117 ?_
                  refine lv_aload_n hx hb dX5_paint_118 rfl (lv_at hl 1 rfl) ?_
                  refine gf_X5_20 hx hb hT hown hK hP 0 rfl rfl dX5_paint_119 ?_
                  refine lv_iload hx hb dX5_paint_122 (lv_at hl 11 rfl) ?_
                  refine z_iald hx hb hK hP 3 rfl (⟨by omega, by omega, by omega⟩) dX5_paint_124 ?_
                  refine z_iconst hx hb dX5_paint_125 ?_
                  refine z_icmp_ne (tgt := 134) hx hb dX5_paint_126 (by decide) (by omega) (by omega) (fun h126 => ?_) (fun h126 => ?_)
                  · skip
                    refine lv_aload_n hx hb dX5_paint_134 rfl (lv_at hl 1 rfl) ?_
                    refine gf_X5_20 hx hb hT hown hK hP 0 rfl rfl dX5_paint_135 ?_
                    refine lv_iload hx hb dX5_paint_138 (lv_at hl 11 rfl) ?_
                    refine z_iald hx hb hK hP 3 rfl (⟨by omega, by omega, by omega⟩) dX5_paint_140 ?_
                    refine z_iast (ws' := mdL G md ma mb mc mt m1 m2 m3 m4 m5 m6 m7 0 w h cnt most rch tl nc M (zu (YS (YA Y w h (wB (inRc x y x2 y2 w) (u + w * v)) (Fm C ov cnt most)) (16 * v + u) (pnF C ov (colY (YA Y w h (wB (inRc x y x2 y2 w) (u + w * v)) (Fm C ov cnt most)) (16 * v + u)) k)) ((8 * ((16 * v) + u)) + k) (C k)) C T CA CB CN CG CS Z K) hx hb hK hP hD hS 2 rfl (⟨by omega, by omega, by omega⟩) dX5_paint_141 rfl (fun H locs hP hD hS => ?_)
                    rw [show (zu (YS (YA Y w h (wB (inRc x y x2 y2 w) (u + w * v)) (Fm C ov cnt most)) (16 * v + u) (pnF C ov (colY (YA Y w h (wB (inRc x y x2 y2 w) (u + w * v)) (Fm C ov cnt most)) (16 * v + u)) k)) ((8 * ((16 * v) + u)) + k) (C k)) = (YS (YA Y w h (wB (inRc x y x2 y2 w) (u + w * v)) (Fm C ov cnt most)) (16 * v + u) (pnF C ov (colY (YA Y w h (wB (inRc x y x2 y2 w) (u + w * v)) (Fm C ov cnt most)) (16 * v + u)) (k + 1))) from by rw [YS_up _ _ _ (by omega), pnF_s _ _ _ (by omega) (by split <;> first | rfl | omega | (split <;> first | rfl | omega))]] at hP hD
                    refine lv_iinc (v := zI (k + (1))) (lv' := [(10, .int (zI (k + (1)))), (11, .int (zI (((colY (YA Y w h (wB (inRc x y x2 y2 w) (u + w * v)) (Fm C ov cnt most)) (16 * v + u)) k)))), (0, .ref md), (1, .int (zI (x))), (2, .int (zI (y))), (3, .int (zI (x2))), (4, .int (zI (y2))), (5, .int (zI (ov))), (6, .int (zI (cntB (inRc x y x2 y2 w) (u + w * v).toNat + (1)))), (7, .int (zI (v))), (8, .int (zI (u))), (9, .int (zI (((16 * v) + u))))]) hx hb dX5_paint_142 hl (k := 11) rfl (zI_add _ _) (by decide) rfl (fun ls hl => ?_)
                    refine z_goto (tgt := 73) hx hb dX5_paint_145 (by decide) ?_
                    exact ih73 (k + 1, ls) _ _ ⟨by refine ⟨?_, ?_⟩ <;> omega, lv_sub hl [2, 3, 4, 5, 6, 7, 8, 9, 10, 11, 0] rfl⟩ (by omega) hP hD hS
                  · skip
                    refine lv_iload hx hb dX5_paint_129 (lv_at hl 0 rfl) ?_
                    refine z_goto (tgt := 141) hx hb dX5_paint_131 (by decide) ?_
                    refine z_iast (ws' := mdL G md ma mb mc mt m1 m2 m3 m4 m5 m6 m7 0 w h cnt most rch tl nc M (zu (YS (YA Y w h (wB (inRc x y x2 y2 w) (u + w * v)) (Fm C ov cnt most)) (16 * v + u) (pnF C ov (colY (YA Y w h (wB (inRc x y x2 y2 w) (u + w * v)) (Fm C ov cnt most)) (16 * v + u)) k)) ((8 * ((16 * v) + u)) + k) ((colY (YA Y w h (wB (inRc x y x2 y2 w) (u + w * v)) (Fm C ov cnt most)) (16 * v + u)) k)) C T CA CB CN CG CS Z K) hx hb hK hP hD hS 2 rfl (⟨by omega, by omega, by omega⟩) dX5_paint_141 rfl (fun H locs hP hD hS => ?_)
                    rw [show (zu (YS (YA Y w h (wB (inRc x y x2 y2 w) (u + w * v)) (Fm C ov cnt most)) (16 * v + u) (pnF C ov (colY (YA Y w h (wB (inRc x y x2 y2 w) (u + w * v)) (Fm C ov cnt most)) (16 * v + u)) k)) ((8 * ((16 * v) + u)) + k) ((colY (YA Y w h (wB (inRc x y x2 y2 w) (u + w * v)) (Fm C ov cnt most)) (16 * v + u)) k)) = (YS (YA Y w h (wB (inRc x y x2 y2 w) (u + w * v)) (Fm C ov cnt most)) (16 * v + u) (pnF C ov (colY (YA Y w h (wB (inRc x y x2 y2 w) (u + w * v)) (Fm C ov cnt most)) (16 * v + u)) (k + 1))) from by rw [YS_up _ _ _ (by omega), pnF_s _ _ _ (by omega) (by split <;> first | rfl | omega | (split <;> first | rfl | omega))]] at hP hD
                    refine lv_iinc (v := zI (k + (1))) (lv' := [(10, .int (zI (k + (1)))), (11, .int (zI (((colY (YA Y w h (wB (inRc x y x2 y2 w) (u + w * v)) (Fm C ov cnt most)) (16 * v + u)) k)))), (0, .ref md), (1, .int (zI (x))), (2, .int (zI (y))), (3, .int (zI (x2))), (4, .int (zI (y2))), (5, .int (zI (ov))), (6, .int (zI (cntB (inRc x y x2 y2 w) (u + w * v).toNat + (1)))), (7, .int (zI (v))), (8, .int (zI (u))), (9, .int (zI (((16 * v) + u))))]) hx hb dX5_paint_142 hl (k := 11) rfl (zI_add _ _) (by decide) rfl (fun ls hl => ?_)
                    refine z_goto (tgt := 73) hx hb dX5_paint_145 (by decide) ?_
                    exact ih73 (k + 1, ls) _ _ ⟨by refine ⟨?_, ?_⟩ <;> omega, lv_sub hl [2, 3, 4, 5, 6, 7, 8, 9, 10, 11, 0] rfl⟩ (by omega) hP hD hS

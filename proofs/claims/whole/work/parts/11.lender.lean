/-! ===== the trap's lender: the best of the points seen so far, and the runs of a plate ===== -/
def inWin (w h rch x y c r : Int) : Prop := (0 ≤ c ∧ c < w) ∧ (0 ≤ r ∧ r < h) ∧ (c - x ≤ rch ∧ x - c ≤ rch) ∧ (r - y ≤ rch ∧ y - r ≤ rch)
def dsq (x y c r : Int) : Int := (c - x) * (c - x) + (r - y) * (r - y)
def bestS (w h rch x y : Int) (cd : Int → Int → Bool) (S : Int → Int → Prop) (b f : Int) : Prop :=
  (b = -1 ∧ ∀ c r, S c r → inWin w h rch x y c r → cd c r = false) ∨
  (∃ c r, S c r ∧ inWin w h rch x y c r ∧ cd c r = true ∧ b = c + w * r ∧ f = dsq x y c r ∧ ∀ c' r', S c' r' → inWin w h rch x y c' r' → cd c' r' = true → dsq x y c r < dsq x y c' r' ∨ (dsq x y c r = dsq x y c' r' ∧ (r < r' ∨ (r = r' ∧ c ≤ c'))))
theorem best_congr {w h rch x y : Int} {cd : Int → Int → Bool} {S S' : Int → Int → Prop} {b f : Int} (hS : ∀ c r, inWin w h rch x y c r → (S c r ↔ S' c r)) (hb : bestS w h rch x y cd S b f) : bestS w h rch x y cd S' b f := by
  rcases hb with ⟨h1, h2⟩ | ⟨c, r, h1, h2, h3, h4, h5, h6⟩
  · exact Or.inl ⟨h1, fun c r hs hw => h2 c r ((hS c r hw).mpr hs) hw⟩
  · exact Or.inr ⟨c, r, (hS c r h2).mp h1, h2, h3, h4, h5, fun c' r' hs hw => h6 c' r' ((hS c' r' hw).mpr hs) hw⟩
theorem best_0 {w h rch x y : Int} {cd : Int → Int → Bool} {S : Int → Int → Prop} {f : Int} (hS : ∀ c r, inWin w h rch x y c r → ¬ S c r) : bestS w h rch x y cd S (-1) f := Or.inl ⟨rfl, fun c r hs hw => absurd hs (hS c r hw)⟩
theorem best_take {w h rch x y : Int} {cd : Int → Int → Bool} {b f c0 r0 : Int} (hb : bestS w h rch x y cd (fun c r => r < r0 ∨ (r = r0 ∧ c < c0)) b f) (hw : inWin w h rch x y c0 r0) (hc : cd c0 r0 = true) (hf : b = -1 ∨ dsq x y c0 r0 < f) : bestS w h rch x y cd (fun c r => r < r0 ∨ (r = r0 ∧ c < c0 + 1)) (c0 + w * r0) (dsq x y c0 r0) := by
  refine Or.inr ⟨c0, r0, Or.inr ⟨rfl, by omega⟩, hw, hc, rfl, rfl, ?_⟩
  intro c' r' hs hw' hc'
  by_cases q : r' = r0 ∧ c' = c0
  · obtain ⟨rfl, rfl⟩ := q
    exact Or.inr ⟨rfl, Or.inr ⟨rfl, Int.le_refl _⟩⟩
  · have hs' : r' < r0 ∨ (r' = r0 ∧ c' < c0) := by
      rcases hs with h | h
      · exact Or.inl h
      · exact Or.inr ⟨h.1, by omega⟩
    rcases hb with ⟨h1, h2⟩ | ⟨c, r, h1, h2, h3, h4, h5, h6⟩
    · rw [h2 c' r' hs' hw'] at hc'; cases hc'
    · have hne : b ≠ -1 := by
        have := Int.mul_nonneg (a := w) (b := r) (by have := hw.1; omega) h2.2.1.1
        have := h2.1
        omega
      have h7 := h6 c' r' hs' hw' hc'
      rcases hf with hf | hf
      · exact absurd hf hne
      · exact Or.inl (by omega)
theorem best_skip {w h rch x y : Int} {cd : Int → Int → Bool} {b f c0 r0 : Int} (hb : bestS w h rch x y cd (fun c r => r < r0 ∨ (r = r0 ∧ c < c0)) b f) (hk : (inWin w h rch x y c0 r0 → cd c0 r0 = false) ∨ (b ≠ -1 ∧ f ≤ dsq x y c0 r0)) : bestS w h rch x y cd (fun c r => r < r0 ∨ (r = r0 ∧ c < c0 + 1)) b f := by
  rcases hb with ⟨h1, h2⟩ | ⟨c, r, h1, h2, h3, h4, h5, h6⟩
  · refine Or.inl ⟨h1, fun c' r' hs hw' => ?_⟩
    by_cases q : r' = r0 ∧ c' = c0
    · obtain ⟨rfl, rfl⟩ := q
      rcases hk with hk | hk
      · exact hk hw'
      · exact absurd h1 hk.1
    · exact h2 c' r' (by rcases hs with h | h
                         · exact Or.inl h
                         · exact Or.inr ⟨h.1, by omega⟩) hw'
  · refine Or.inr ⟨c, r, by rcases h1 with h | h
                            · exact Or.inl h
                            · exact Or.inr ⟨h.1, by omega⟩, h2, h3, h4, h5, fun c' r' hs hw' hc' => ?_⟩
    by_cases q : r' = r0 ∧ c' = c0
    · obtain ⟨rfl, rfl⟩ := q
      rcases hk with hk | hk
      · rw [hk hw'] at hc'; cases hc'
      · rw [h5] at hk
        by_cases q2 : dsq x y c r = dsq x y c' r'
        · exact Or.inr ⟨q2, by omega⟩
        · exact Or.inl (by omega)
    · exact h6 c' r' (by rcases hs with h | h
                         · exact Or.inl h
                         · exact Or.inr ⟨h.1, by omega⟩) hw' hc'
theorem best_uniq {w h rch x y : Int} {cd : Int → Int → Bool} {b f b' f' : Int} (h1 : bestS w h rch x y cd (fun _ _ => True) b f) (h2 : bestS w h rch x y cd (fun _ _ => True) b' f') : b = b' := by
  rcases h1 with ⟨h1, h1'⟩ | ⟨c, r, -, k2, k3, k4, k5, k6⟩ <;> rcases h2 with ⟨h2, h2'⟩ | ⟨c', r', -, l2, l3, l4, l5, l6⟩
  · omega
  · rw [h1' c' r' trivial l2] at l3; cases l3
  · rw [h2' c r trivial k2] at k3; cases k3
  · have a1 := k6 c' r' trivial l2 l3
    have a2 := l6 c r trivial k2 k3
    have e1 : r = r' := by omega
    have e2 : c = c' := by omega
    rw [k4, l4, e1, e2]
noncomputable def lendV (w h rch x y : Int) (cd : Int → Int → Bool) : Int := Classical.epsilon (fun b : Int => ∃ f : Int, bestS w h rch x y cd (fun _ _ => True) b f)
theorem lend_eq {w h rch x y : Int} {cd : Int → Int → Bool} {b f : Int} (h1 : bestS w h rch x y cd (fun _ _ => True) b f) : b = lendV w h rch x y cd := by
  obtain ⟨f', h2⟩ := Classical.epsilon_spec (p := fun b : Int => ∃ f : Int, bestS w h rch x y cd (fun _ _ => True) b f) ⟨b, f, h1⟩
  exact best_uniq h1 h2
theorem lend_b {w h rch x y : Int} {cd : Int → Int → Bool} {b f : Int} (hw : 1 ≤ w) (hh : 1 ≤ h) (h1 : bestS w h rch x y cd (fun _ _ => True) b f) : -1 ≤ b ∧ b < w * h := by
  rcases h1 with ⟨h1, -⟩ | ⟨c, r, -, k2, -, k4, -⟩
  · have := Int.mul_nonneg (a := w) (b := h) (by omega) (by omega); omega
  · have h2 := k2.1; have h3 := k2.2.1
    have h4 := Int.mul_nonneg (a := w) (b := r) (by omega) h3.1
    have h5 := Int.mul_le_mul_of_nonneg_left (a := r + 1) (b := h) (c := w) (by omega) (by omega)
    rw [Int.mul_add, Int.mul_one] at h5
    omega
theorem pt_b {w h x y : Int} (hx : 0 ≤ x ∧ x < w) (hy : 0 ≤ y ∧ y < h) : 0 ≤ x + w * y ∧ x + w * y < w * h := by
  have h4 := Int.mul_nonneg (a := w) (b := y) (by omega) hy.1
  have h5 := Int.mul_le_mul_of_nonneg_left (a := y + 1) (b := h) (c := w) (by omega) (by omega)
  rw [Int.mul_add, Int.mul_one] at h5
  omega
theorem sq_b {a : Int} (h : -16 ≤ a ∧ a ≤ 16) : 0 ≤ a * a ∧ a * a ≤ 256 := by
  by_cases q : 0 ≤ a
  · have := mul_b (a := a) (b := a) (A := 16) (B := 16) (by omega) (by omega); omega
  · have := mul_b (a := -a) (b := -a) (A := 16) (B := 16) (by omega) (by omega)
    rw [Int.neg_mul_neg] at this; omega
theorem dsq_b {x y c r : Int} (h1 : -16 ≤ c - x ∧ c - x ≤ 16) (h2 : -16 ≤ r - y ∧ r - y ≤ 16) : 0 ≤ dsq x y c r ∧ dsq x y c r ≤ 512 := by
  have a := sq_b h1; have b := sq_b h2
  unfold dsq; omega
def cdB (M P : Int → Int) (pts cnt w p c r : Int) : Bool := unlB P pts cnt p (c + w * r) && decide (lightV M P pts cnt p < lightV M P pts cnt (c + w * r))
theorem sk_far {b f ds D : Int} {A : Prop} (h : f ≤ ds) (hds : ds = D) (hd : D ≤ 512) (hr : b = -1 → f = 2147483647) : A ∨ (b ≠ -1 ∧ f ≤ D) := Or.inr ⟨fun q => by have := hr q; omega, by omega⟩
theorem sk_unl {M P : Int → Int} {pts cnt w p c r : Int} {A B : Prop} (h : bI (unlB P pts cnt p (c + w * r)) = 0) : (A → cdB M P pts cnt w p c r = false) ∨ B := Or.inl (fun _ => by unfold cdB; rw [bI_f.mp h]; rfl)
theorem sk_lit {M P : Int → Int} {pts cnt w p c r : Int} {A B : Prop} (h : lightV M P pts cnt (c + w * r) ≤ lightV M P pts cnt p) : (A → cdB M P pts cnt w p c r = false) ∨ B := Or.inl (fun _ => by unfold cdB; rw [decide_eq_false (by omega)]; simp)
theorem lightV_b {M P : Int → Int} (hM : ∀ j, 0 ≤ M j ∧ M j ≤ 255) (hB : ∀ j, 0 ≤ P j ∧ P j ≤ 255) (pts cnt p : Int) : 0 ≤ lightV M P pts cnt p ∧ lightV M P pts cnt p ≤ 255 := by
  have h0 := bandV_b hM hB pts cnt 0 p (-1); have h1 := bandV_b hM hB pts cnt 1 p (-1); have h2 := bandV_b hM hB pts cnt 2 p (-1)
  unfold lightV; omega

set_option maxHeartbeats 4000000 in
set_option maxRecDepth 100000 in
theorem c_X3_lenderOf (l : Launch) (G : zG) (pg ik mx co pa : Nat) (w h pts cnt most rch : Int) (M C P : Int → Int) (x y : Int) (hp : pgOK w h pts cnt most rch M C P) (hxx : 0 ≤ x ∧ x < w) (hyy : 0 ≤ y ∧ y < h) : zRd l yX3_lenderOf cX3_lenderOf 11 (some .int) { frames := 4, cells := 0, slots := 0, locals := 93 } G [.ref pg, .int (zI (x)), .int (zI (y))] (pgL G pg ik mx co pa w h pts cnt most rch M C P) (lendV w h rch x y (cdB M P pts cnt w (x + w * y))) := by
  refine Met.ofW (cc := cX3_lenderOf) (maxL := 11) (ret := (some .int)) (by decide) rfl ?_
  intro p e s m args below meth c s₁ B hml hv
  obtain ⟨rfl, hP, hK⟩ := hv
  have hx := B.exec
  have hb := B.bytes
  have hr := B.returns
  have hT : ∀ w ∈ TB, w.before _ s = true := fun w h => atoms_spec (ws := Cond.code yX3_lenderOf cX3_lenderOf 11 (some .int) :: TB) B.pre w (List.mem_cons_of_mem _ h)
  have hown : s.vm.findClass RX3 = some m.cls := findClass_of_methodNamed B.named
  have hlocks := B.notSynchronized
  have hl := lv_entry ([.ref pg, .int (zI (x)), .int (zI (y))]) (n := 11) (Nat.le_of_ble_eq_true rfl)
  rw [lg_entry_eq]
  generalize (lg_sl ([.ref pg, .int (zI (x)), .int (zI (y))]) ++ List.replicate (11 - (lg_sl ([.ref pg, .int (zI (x)), .int (zI (y))])).length) Slot.unset).toArray = ls at hl ⊢
  have hl : lv_has ls 11 [(0, .ref pg), (1, .int (zI (x))), (2, .int (zI (y)))] := hl
  obtain ⟨hw, hh, hpts, hcnt, hmost, hrch, hM, hC, hB⟩ := id hp
  have hpt := pgOK_pts hp
  have hpq := pt_b hxx hyy
  have hlt := lightV_b hM hB pts cnt
  refine lv_iload_n hx hb dX3_lenderOf_0 rfl (lv_at hl 1 rfl) ?_
  refine lv_aload_n hx hb dX3_lenderOf_1 rfl (lv_at hl 0 rfl) ?_
  refine gf_X3_25 hx hb hT hown hK hP 0 rfl rfl dX3_lenderOf_2 ?_
  refine lv_iload_n hx hb dX3_lenderOf_5 rfl (lv_at hl 2 rfl) ?_
  refine z_imul hx hb dX3_lenderOf_6 ?_
  refine z_iadd hx hb dX3_lenderOf_7 ?_
  refine lv_istore_n (lv' := [(3, .int (zI ((x + (w * y))))), (0, .ref pg), (1, .int (zI (x))), (2, .int (zI (y)))]) hx hb dX3_lenderOf_8 rfl hl (by decide) rfl (fun ls hl => ?_)
  refine lv_aload_n hx hb dX3_lenderOf_9 rfl (lv_at hl 1 rfl) ?_
  refine lv_iload_n hx hb dX3_lenderOf_10 rfl (lv_at hl 0 rfl) ?_
  refine z_callV (q0 := 0) (G := G) (As := [.int (zI ((x + (w * y))))]) (rest := []) hx hb hml hown hT hK (c_X3_lightness l G pg ik mx co pa w h pts cnt most rch M C P ((x + (w * y))) hp (by omega)) kc_X3_79 ⟨Nat.le_of_ble_eq_true rfl, Nat.le_of_ble_eq_true rfl⟩ ⟨rfl, rfl⟩ ⟨Nat.zero_le _, Nat.zero_le _⟩ hP rfl rfl rfl rfl hl.1 rfl (Nat.le_of_ble_eq_true rfl) dX3_lenderOf_11 ?_
  have hl1 := hlt (x + w * y)
  refine lv_istore (lv' := [(4, .int (zI ((lightV M P pts cnt (x + (w * y)))))), (3, .int (zI ((x + (w * y))))), (0, .ref pg), (1, .int (zI (x))), (2, .int (zI (y)))]) hx hb dX3_lenderOf_14 hl (by decide) rfl (fun ls hl => ?_)
  refine z_iconst hx hb dX3_lenderOf_16 ?_
  refine lv_istore (lv' := [(5, .int (zI ((-1)))), (4, .int (zI ((lightV M P pts cnt (x + (w * y)))))), (3, .int (zI ((x + (w * y))))), (0, .ref pg), (1, .int (zI (x))), (2, .int (zI (y)))]) hx hb dX3_lenderOf_17 hl (by decide) rfl (fun ls hl => ?_)
  refine lv_ldc (v := zI (2147483647)) hx hb hown (hT _ (mT 351 (by decide +kernel) rfl)) dX3_lenderOf_19 ?_
  refine lv_istore (lv' := [(6, .int (zI ((2147483647)))), (5, .int (zI ((-1)))), (4, .int (zI ((lightV M P pts cnt (x + (w * y)))))), (3, .int (zI ((x + (w * y))))), (0, .ref pg), (1, .int (zI (x))), (2, .int (zI (y)))]) hx hb dX3_lenderOf_21 hl (by decide) rfl (fun ls hl => ?_)
  refine z_iconst hx hb dX3_lenderOf_23 ?_
  refine lv_iload_n hx hb dX3_lenderOf_24 rfl (lv_at hl 6 rfl) ?_
  refine lv_aload_n hx hb dX3_lenderOf_25 rfl (lv_at hl 4 rfl) ?_
  refine gf_X3_22 hx hb hT hown hK hP 0 rfl rfl dX3_lenderOf_26 ?_
  refine z_isub hx hb dX3_lenderOf_29 ?_
  refine z_mmax hx hb hml hl.1 hown hT kc_X3_42 ⟨Nat.le_of_ble_eq_true rfl, Nat.le_of_ble_eq_true rfl⟩ ⟨Nat.zero_le _, Nat.zero_le _⟩ (by omega) (by omega) dX3_lenderOf_30 ?_
  refine lv_istore (lv' := [(7, .int (zI ((max 0 (y - rch))))), (6, .int (zI ((2147483647)))), (5, .int (zI ((-1)))), (4, .int (zI ((lightV M P pts cnt (x + (w * y)))))), (3, .int (zI ((x + (w * y))))), (0, .ref pg), (1, .int (zI (x))), (2, .int (zI (y)))]) hx hb dX3_lenderOf_33 hl (by decide) rfl (fun ls hl => ?_)
  refine z_loop (σ := Int × Int × Int × Array Slot) (fun zq => F0 m 35 (zq.2.2.2) []) (fun zq => ((max 0 (y - rch) ≤ zq.1 ∧ zq.1 ≤ h) ∧ ((-1 ≤ zq.2.1 ∧ zq.2.1 ≤ 100000) ∧ (0 ≤ zq.2.2.1 ∧ zq.2.2.1 ≤ 2147483647) ∧ (zq.2.1 = -1 → zq.2.2.1 = 2147483647)) ∧ bestS w h rch x y (cdB M P pts cnt w (x + w * y)) (fun c r => r < zq.1) zq.2.1 zq.2.2.1) ∧ lv_has (zq.2.2.2) 11 [(0, .ref pg), (1, .int (zI (x))), (2, .int (zI (y))), (3, .int (zI ((x + (w * y))))), (4, .int (zI ((lightV M P pts cnt (x + (w * y)))))), (5, .int (zI (zq.2.1))), (6, .int (zI (zq.2.2.1))), (7, .int (zI (zq.1)))]) (fun zq => (h - zq.1).toNat) ?_ ((max 0 (y - rch)), (-1), 2147483647, ls) ⟨⟨by dsimp only; omega, by dsimp only; omega, best_0 (fun c r hw9 hs9 => by unfold inWin at hw9; omega)⟩, lv_sub hl [5, 6, 7, 4, 3, 2, 1, 0] rfl⟩
  intro zq hq ih
  obtain ⟨row, b0, f0, ls⟩ := zq
  obtain ⟨⟨hI, hRn, hBs⟩, hl⟩ := hq
  try dsimp only at hI hRn hBs hl ih ⊢
  have ih35 := ih
  refine lv_iload hx hb dX3_lenderOf_35 (lv_at hl 7 rfl) ?_
  refine lv_aload_n hx hb dX3_lenderOf_37 rfl (lv_at hl 0 rfl) ?_
  refine gf_X3_28 hx hb hT hown hK hP 0 rfl rfl dX3_lenderOf_38 ?_
  refine z_iconst hx hb dX3_lenderOf_41 ?_
  refine z_isub hx hb dX3_lenderOf_42 ?_
  refine lv_iload_n hx hb dX3_lenderOf_43 rfl (lv_at hl 2 rfl) ?_
  refine lv_aload_n hx hb dX3_lenderOf_44 rfl (lv_at hl 0 rfl) ?_
  refine gf_X3_22 hx hb hT hown hK hP 0 rfl rfl dX3_lenderOf_45 ?_
  refine z_iadd hx hb dX3_lenderOf_48 ?_
  refine z_mmin hx hb hml hl.1 hown hT kc_X3_65 ⟨Nat.le_of_ble_eq_true rfl, Nat.le_of_ble_eq_true rfl⟩ ⟨Nat.zero_le _, Nat.zero_le _⟩ (by omega) (by omega) dX3_lenderOf_49 ?_
  refine z_icmp_gt (tgt := 168) hx hb dX3_lenderOf_52 (by decide) (by omega) (by omega) (fun h52 => ?_) (fun h52 => ?_)
  · skip
    refine lv_iload hx hb dX3_lenderOf_168 (lv_at hl 5 rfl) ?_
    exact z_iret hx hb hr hlocks (lend_eq (best_congr (fun c r hw9 => by unfold inWin at hw9; constructor <;> intro h9 <;> first | trivial | omega) hBs)) dX3_lenderOf_170
  · skip
    refine z_iconst hx hb dX3_lenderOf_55 ?_
    refine lv_iload_n hx hb dX3_lenderOf_56 rfl (lv_at hl 1 rfl) ?_
    refine lv_aload_n hx hb dX3_lenderOf_57 rfl (lv_at hl 0 rfl) ?_
    refine gf_X3_22 hx hb hT hown hK hP 0 rfl rfl dX3_lenderOf_58 ?_
    refine z_isub hx hb dX3_lenderOf_61 ?_
    refine z_mmax hx hb hml hl.1 hown hT kc_X3_42 ⟨Nat.le_of_ble_eq_true rfl, Nat.le_of_ble_eq_true rfl⟩ ⟨Nat.zero_le _, Nat.zero_le _⟩ (by omega) (by omega) dX3_lenderOf_62 ?_
    refine lv_istore (lv' := [(8, .int (zI ((max 0 (x - rch))))), (0, .ref pg), (1, .int (zI (x))), (2, .int (zI (y))), (3, .int (zI ((x + (w * y))))), (4, .int (zI ((lightV M P pts cnt (x + (w * y)))))), (5, .int (zI (b0))), (6, .int (zI (f0))), (7, .int (zI (row)))]) hx hb dX3_lenderOf_65 hl (by decide) rfl (fun ls hl => ?_)
    refine z_loop (σ := Int × Int × Int × Array Slot) (fun zq => F0 m 67 (zq.2.2.2) []) (fun zq => ((max 0 (x - rch) ≤ zq.1 ∧ zq.1 ≤ w) ∧ ((-1 ≤ zq.2.1 ∧ zq.2.1 ≤ 100000) ∧ (0 ≤ zq.2.2.1 ∧ zq.2.2.1 ≤ 2147483647) ∧ (zq.2.1 = -1 → zq.2.2.1 = 2147483647)) ∧ bestS w h rch x y (cdB M P pts cnt w (x + w * y)) (fun c r => r < row ∨ (r = row ∧ c < zq.1)) zq.2.1 zq.2.2.1) ∧ lv_has (zq.2.2.2) 11 [(0, .ref pg), (1, .int (zI (x))), (2, .int (zI (y))), (3, .int (zI ((x + (w * y))))), (4, .int (zI ((lightV M P pts cnt (x + (w * y)))))), (5, .int (zI (zq.2.1))), (6, .int (zI (zq.2.2.1))), (7, .int (zI (row))), (8, .int (zI (zq.1)))]) (fun zq => (w - zq.1).toNat) ?_ ((max 0 (x - rch)), b0, f0, ls) ⟨⟨by dsimp only; omega, hRn, best_congr (fun c r hw9 => by unfold inWin at hw9; constructor <;> intro h9 <;> omega) hBs⟩, lv_sub hl [1, 2, 3, 4, 5, 6, 7, 8, 0] rfl⟩
    intro zq hq ih
    obtain ⟨col, b1, f1, ls⟩ := zq
    obtain ⟨⟨hI1, hRn, hBs⟩, hl⟩ := hq
    try dsimp only at hI1 hRn hBs hl ih ⊢
    have ih67 := ih
    refine lv_iload hx hb dX3_lenderOf_67 (lv_at hl 8 rfl) ?_
    refine lv_aload_n hx hb dX3_lenderOf_69 rfl (lv_at hl 0 rfl) ?_
    refine gf_X3_25 hx hb hT hown hK hP 0 rfl rfl dX3_lenderOf_70 ?_
    refine z_iconst hx hb dX3_lenderOf_73 ?_
    refine z_isub hx hb dX3_lenderOf_74 ?_
    refine lv_iload_n hx hb dX3_lenderOf_75 rfl (lv_at hl 1 rfl) ?_
    refine lv_aload_n hx hb dX3_lenderOf_76 rfl (lv_at hl 0 rfl) ?_
    refine gf_X3_22 hx hb hT hown hK hP 0 rfl rfl dX3_lenderOf_77 ?_
    refine z_iadd hx hb dX3_lenderOf_80 ?_
    refine z_mmin hx hb hml hl.1 hown hT kc_X3_65 ⟨Nat.le_of_ble_eq_true rfl, Nat.le_of_ble_eq_true rfl⟩ ⟨Nat.zero_le _, Nat.zero_le _⟩ (by omega) (by omega) dX3_lenderOf_81 ?_
    refine z_icmp_gt (tgt := 162) hx hb dX3_lenderOf_84 (by decide) (by omega) (by omega) (fun h84 => ?_) (fun h84 => ?_)
    · skip
      refine lv_iinc (v := zI (row + (1))) (lv' := [(7, .int (zI (row + (1)))), (0, .ref pg), (1, .int (zI (x))), (2, .int (zI (y))), (3, .int (zI ((x + (w * y))))), (4, .int (zI ((lightV M P pts cnt (x + (w * y)))))), (5, .int (zI (b1))), (6, .int (zI (f1))), (8, .int (zI (col)))]) hx hb dX3_lenderOf_162 hl (k := 7) rfl (zI_add _ _) (by decide) rfl (fun ls hl => ?_)
      refine z_goto (tgt := 35) hx hb dX3_lenderOf_165 (by decide) ?_
      exact ih35 (row + (1), b1, f1, ls) ⟨⟨by dsimp only; omega, hRn, best_congr (fun c r hw9 => by unfold inWin at hw9; constructor <;> intro h9 <;> omega) hBs⟩, lv_sub hl [1, 2, 3, 4, 5, 6, 7, 0] rfl⟩ (by omega)
    · skip
      have hpc := pt_b (w := w) (h := h) (x := col) (y := row) (by omega) (by omega)
      have hwin : inWin w h rch x y col row := by unfold inWin; omega
      have hdb := dsq_b (x := x) (y := y) (c := col) (r := row) (by omega) (by omega)
      obtain ⟨ds, hds⟩ : ∃ z : Int, z = dsq x y col row := ⟨_, rfl⟩
      have hl2 := hlt (col + w * row)
      refine lv_iload hx hb dX3_lenderOf_87 (lv_at hl 8 rfl) ?_
      refine lv_aload_n hx hb dX3_lenderOf_89 rfl (lv_at hl 0 rfl) ?_
      refine gf_X3_25 hx hb hT hown hK hP 0 rfl rfl dX3_lenderOf_90 ?_
      refine lv_iload hx hb dX3_lenderOf_93 (lv_at hl 7 rfl) ?_
      refine z_imul hx hb dX3_lenderOf_95 ?_
      refine z_iadd hx hb dX3_lenderOf_96 ?_
      refine lv_istore (lv' := [(9, .int (zI ((col + (w * row))))), (0, .ref pg), (1, .int (zI (x))), (2, .int (zI (y))), (3, .int (zI ((x + (w * y))))), (4, .int (zI ((lightV M P pts cnt (x + (w * y)))))), (5, .int (zI (b1))), (6, .int (zI (f1))), (7, .int (zI (row))), (8, .int (zI (col)))]) hx hb dX3_lenderOf_97 hl (by decide) rfl (fun ls hl => ?_)
      refine lv_iload hx hb dX3_lenderOf_99 (lv_at hl 9 rfl) ?_
      refine lv_iload_n hx hb dX3_lenderOf_101 rfl (lv_at hl 2 rfl) ?_
      refine z_isub hx hb dX3_lenderOf_102 ?_
      refine lv_iload hx hb dX3_lenderOf_103 (lv_at hl 9 rfl) ?_
      refine lv_iload_n hx hb dX3_lenderOf_105 rfl (lv_at hl 2 rfl) ?_
      refine z_isub hx hb dX3_lenderOf_106 ?_
      refine z_imul hx hb dX3_lenderOf_107 ?_
      refine lv_iload hx hb dX3_lenderOf_108 (lv_at hl 8 rfl) ?_
      refine lv_iload_n hx hb dX3_lenderOf_110 rfl (lv_at hl 3 rfl) ?_
      refine z_isub hx hb dX3_lenderOf_111 ?_
      refine lv_iload hx hb dX3_lenderOf_112 (lv_at hl 8 rfl) ?_
      refine lv_iload_n hx hb dX3_lenderOf_114 rfl (lv_at hl 3 rfl) ?_
      refine z_isub hx hb dX3_lenderOf_115 ?_
      refine z_imul hx hb dX3_lenderOf_116 ?_
      refine z_iadd hx hb dX3_lenderOf_117 ?_
      refine z_top (ds) (hds.symm) ?_
      refine lv_istore (lv' := [(10, .int (zI (ds))), (9, .int (zI ((col + (w * row))))), (0, .ref pg), (1, .int (zI (x))), (2, .int (zI (y))), (3, .int (zI ((x + (w * y))))), (4, .int (zI ((lightV M P pts cnt (x + (w * y)))))), (5, .int (zI (b1))), (6, .int (zI (f1))), (7, .int (zI (row))), (8, .int (zI (col)))]) hx hb dX3_lenderOf_118 hl (by decide) rfl (fun ls hl => ?_)
      refine lv_iload hx hb dX3_lenderOf_120 (lv_at hl 0 rfl) ?_
      refine lv_iload hx hb dX3_lenderOf_122 (lv_at hl 8 rfl) ?_
      refine z_icmp_ge (tgt := 156) hx hb dX3_lenderOf_124 (by decide) (by omega) (by omega) (fun h124 => ?_) (fun h124 => ?_)
      · skip
        refine lv_iinc (v := zI (col + (1))) (lv' := [(8, .int (zI (col + (1)))), (10, .int (zI (ds))), (9, .int (zI ((col + (w * row))))), (0, .ref pg), (1, .int (zI (x))), (2, .int (zI (y))), (3, .int (zI ((x + (w * y))))), (4, .int (zI ((lightV M P pts cnt (x + (w * y)))))), (5, .int (zI (b1))), (6, .int (zI (f1))), (7, .int (zI (row)))]) hx hb dX3_lenderOf_156 hl (k := 10) rfl (zI_add _ _) (by decide) rfl (fun ls hl => ?_)
        refine z_goto (tgt := 67) hx hb dX3_lenderOf_159 (by decide) ?_
        exact ih67 (col + (1), b1, f1, ls) ⟨⟨by dsimp only; omega, hRn, best_skip hBs (by first | exact sk_far h124 hds hdb.2 hRn.2.2 | exact sk_unl h134 | exact sk_lit h145)⟩, lv_sub hl [3, 4, 5, 6, 7, 8, 9, 10, 0] rfl⟩ (by omega)
      · skip
        refine lv_aload_n hx hb dX3_lenderOf_127 rfl (lv_at hl 2 rfl) ?_
        refine lv_iload_n hx hb dX3_lenderOf_128 rfl (lv_at hl 5 rfl) ?_
        refine lv_iload hx hb dX3_lenderOf_129 (lv_at hl 1 rfl) ?_
        refine z_callV (q0 := 0) (G := G) (As := [.int (zI ((x + (w * y)))), .int (zI ((col + (w * row))))]) (rest := []) hx hb hml hown hT hK (c_X3_unlike l G pg ik mx co pa w h pts cnt most rch M C P ((x + (w * y))) ((col + (w * row))) hp (by omega) (by omega)) kc_X3_85 ⟨Nat.le_of_ble_eq_true rfl, Nat.le_of_ble_eq_true rfl⟩ ⟨rfl, rfl⟩ ⟨Nat.zero_le _, Nat.zero_le _⟩ hP rfl rfl rfl rfl hl.1 rfl (Nat.le_of_ble_eq_true rfl) dX3_lenderOf_131 ?_
        have hu := bI_01 (unlB P pts cnt (x + w * y) (col + w * row))
        refine z_if_eq (tgt := 156) hx hb dX3_lenderOf_134 (by decide) (by omega) (fun h134 => ?_) (fun h134 => ?_)
        · skip
          refine lv_iinc (v := zI (col + (1))) (lv' := [(8, .int (zI (col + (1)))), (10, .int (zI (ds))), (9, .int (zI ((col + (w * row))))), (0, .ref pg), (1, .int (zI (x))), (2, .int (zI (y))), (3, .int (zI ((x + (w * y))))), (4, .int (zI ((lightV M P pts cnt (x + (w * y)))))), (5, .int (zI (b1))), (6, .int (zI (f1))), (7, .int (zI (row)))]) hx hb dX3_lenderOf_156 hl (k := 10) rfl (zI_add _ _) (by decide) rfl (fun ls hl => ?_)
          refine z_goto (tgt := 67) hx hb dX3_lenderOf_159 (by decide) ?_
          exact ih67 (col + (1), b1, f1, ls) ⟨⟨by dsimp only; omega, hRn, best_skip hBs (by first | exact sk_far h124 hds hdb.2 hRn.2.2 | exact sk_unl h134 | exact sk_lit h145)⟩, lv_sub hl [3, 4, 5, 6, 7, 8, 9, 10, 0] rfl⟩ (by omega)
        · skip
          refine lv_aload_n hx hb dX3_lenderOf_137 rfl (lv_at hl 2 rfl) ?_
          refine lv_iload hx hb dX3_lenderOf_138 (lv_at hl 1 rfl) ?_
          refine z_callV (q0 := 0) (G := G) (As := [.int (zI ((col + (w * row))))]) (rest := []) hx hb hml hown hT hK (c_X3_lightness l G pg ik mx co pa w h pts cnt most rch M C P ((col + (w * row))) hp (by omega)) kc_X3_79 ⟨Nat.le_of_ble_eq_true rfl, Nat.le_of_ble_eq_true rfl⟩ ⟨rfl, rfl⟩ ⟨Nat.zero_le _, Nat.zero_le _⟩ hP rfl rfl rfl rfl hl.1 rfl (Nat.le_of_ble_eq_true rfl) dX3_lenderOf_140 ?_
          refine lv_iload hx hb dX3_lenderOf_143 (lv_at hl 6 rfl) ?_
          refine z_icmp_le (tgt := 156) hx hb dX3_lenderOf_145 (by decide) (by omega) (by omega) (fun h145 => ?_) (fun h145 => ?_)
          · skip
            refine lv_iinc (v := zI (col + (1))) (lv' := [(8, .int (zI (col + (1)))), (10, .int (zI (ds))), (9, .int (zI ((col + (w * row))))), (0, .ref pg), (1, .int (zI (x))), (2, .int (zI (y))), (3, .int (zI ((x + (w * y))))), (4, .int (zI ((lightV M P pts cnt (x + (w * y)))))), (5, .int (zI (b1))), (6, .int (zI (f1))), (7, .int (zI (row)))]) hx hb dX3_lenderOf_156 hl (k := 10) rfl (zI_add _ _) (by decide) rfl (fun ls hl => ?_)
            refine z_goto (tgt := 67) hx hb dX3_lenderOf_159 (by decide) ?_
            exact ih67 (col + (1), b1, f1, ls) ⟨⟨by dsimp only; omega, hRn, best_skip hBs (by first | exact sk_far h124 hds hdb.2 hRn.2.2 | exact sk_unl h134 | exact sk_lit h145)⟩, lv_sub hl [3, 4, 5, 6, 7, 8, 9, 10, 0] rfl⟩ (by omega)
          · skip
            refine lv_iload hx hb dX3_lenderOf_148 (lv_at hl 1 rfl) ?_
            refine lv_istore (lv' := [(5, .int (zI ((col + (w * row))))), (10, .int (zI (ds))), (9, .int (zI ((col + (w * row))))), (0, .ref pg), (1, .int (zI (x))), (2, .int (zI (y))), (3, .int (zI ((x + (w * y))))), (4, .int (zI ((lightV M P pts cnt (x + (w * y)))))), (6, .int (zI (f1))), (7, .int (zI (row))), (8, .int (zI (col)))]) hx hb dX3_lenderOf_150 hl (by decide) rfl (fun ls hl => ?_)
            refine lv_iload hx hb dX3_lenderOf_152 (lv_at hl 1 rfl) ?_
            refine lv_istore (lv' := [(6, .int (zI (ds))), (5, .int (zI ((col + (w * row))))), (10, .int (zI (ds))), (9, .int (zI ((col + (w * row))))), (0, .ref pg), (1, .int (zI (x))), (2, .int (zI (y))), (3, .int (zI ((x + (w * y))))), (4, .int (zI ((lightV M P pts cnt (x + (w * y)))))), (7, .int (zI (row))), (8, .int (zI (col)))]) hx hb dX3_lenderOf_154 hl (by decide) rfl (fun ls hl => ?_)
            refine lv_iinc (v := zI (col + (1))) (lv' := [(8, .int (zI (col + (1)))), (6, .int (zI (ds))), (5, .int (zI ((col + (w * row))))), (10, .int (zI (ds))), (9, .int (zI ((col + (w * row))))), (0, .ref pg), (1, .int (zI (x))), (2, .int (zI (y))), (3, .int (zI ((x + (w * y))))), (4, .int (zI ((lightV M P pts cnt (x + (w * y)))))), (7, .int (zI (row)))]) hx hb dX3_lenderOf_156 hl (k := 10) rfl (zI_add _ _) (by decide) rfl (fun ls hl => ?_)
            refine z_goto (tgt := 67) hx hb dX3_lenderOf_159 (by decide) ?_
            exact ih67 (col + (1), (col + (w * row)), ds, ls) ⟨⟨by dsimp only; omega, by dsimp only; omega, hds ▸ best_take hBs hwin (by unfold cdB; rw [bI_t.mp h134, decide_eq_true (by omega)]; rfl) (by omega)⟩, lv_sub hl [5, 6, 7, 8, 9, 2, 1, 10, 0] rfl⟩ (by omega)

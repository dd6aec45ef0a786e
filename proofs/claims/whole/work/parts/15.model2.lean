/-! ===== the reference: lender, curve, same points, runs ===== -/
theorem best_ex (w h rch x y : Int) (cd : Int → Int → Bool) (hw : 0 ≤ w) (hh : 0 ≤ h) : ∃ b f : Int, bestS w h rch x y cd (fun _ _ => True) b f := by
  have row : ∀ (r0 : Int) (b f : Int), bestS w h rch x y cd (fun c r => r < r0) b f → ∀ n : Nat, ∃ b f : Int, bestS w h rch x y cd (fun c r => r < r0 ∨ (r = r0 ∧ c < (n : Int))) b f := by
    intro r0 b f hb n
    induction n with
    | zero => exact ⟨b, f, best_congr (fun c r hw9 => by unfold inWin at hw9; constructor <;> intro h9 <;> omega) hb⟩
    | succ n ih =>
      obtain ⟨b1, f1, h1⟩ := ih
      by_cases q : inWin w h rch x y (n : Int) r0 ∧ cd (n : Int) r0 = true ∧ (b1 = -1 ∨ dsq x y (n : Int) r0 < f1)
      · exact ⟨_, _, best_congr (fun c r _ => by simp) (best_take h1 q.1 q.2.1 q.2.2)⟩
      · refine ⟨b1, f1, best_congr (fun c r _ => by simp) (best_skip h1 ?_)⟩
        by_cases q1 : inWin w h rch x y (n : Int) r0
        · by_cases q2 : cd (n : Int) r0 = true
          · right
            have q3 : ¬ (b1 = -1 ∨ dsq x y (n : Int) r0 < f1) := fun q3 => q ⟨q1, q2, q3⟩
            omega
          · left; intro _; simpa using q2
        · left; intro q4; exact absurd q4 q1
  have all : ∀ n : Nat, ∃ b f : Int, bestS w h rch x y cd (fun c r => r < (n : Int)) b f := by
    intro n
    induction n with
    | zero => exact ⟨-1, 0, best_0 (fun c r hw9 h9 => by unfold inWin at hw9; omega)⟩
    | succ n ih =>
      obtain ⟨b1, f1, h1⟩ := ih
      obtain ⟨b2, f2, h2⟩ := row (n : Int) b1 f1 h1 w.toNat
      exact ⟨b2, f2, best_congr (fun c r hw9 => by unfold inWin at hw9; constructor <;> intro h9 <;> omega) h2⟩
  obtain ⟨b, f, h1⟩ := all h.toNat
  exact ⟨b, f, best_congr (fun c r hw9 => by unfold inWin at hw9; constructor <;> intro h9 <;> first | trivial | omega) h1⟩
theorem lendV_b {w h rch x y : Int} (cd : Int → Int → Bool) (hw : 1 ≤ w) (hh : 1 ≤ h) : -1 ≤ lendV w h rch x y cd ∧ lendV w h rch x y cd < w * h := by
  obtain ⟨b, f, h1⟩ := best_ex w h rch x y cd (by omega) (by omega)
  rw [← lend_eq h1]; exact lend_b hw hh h1
theorem sk_near {M P : Int → Int} {pts cnt w h rch x y c r ds : Int} {B : Prop} (h9 : bI (decide (((c - x) ≤ rch ∧ -(c - x) ≤ rch) ∧ ((r - y) ≤ rch ∧ -(r - y) ≤ rch) ∧ 0 < ds)) = 0) (hds : ds = dsq x y c r) : (inWin w h rch x y c r → cdB M P pts cnt w (x + w * y) c r = false) ∨ B := by
  left; intro hw
  have h1 := of_decide_eq_false (bI_f.mp h9)
  unfold inWin at hw
  have h2 : ¬ 0 < ds := fun q => h1 ⟨by omega, by omega, q⟩
  have sq : ∀ z : Int, 0 ≤ z * z := fun z => by
    rcases Int.le_total 0 z with q | q
    · exact Int.mul_nonneg q q
    · have := Int.mul_nonneg (a := -z) (b := -z) (by omega) (by omega); rwa [Int.neg_mul_neg] at this
  have h3 := sq (c - x); have h4 := sq (r - y)
  have h5 : (c - x) * (c - x) = 0 := by unfold dsq at hds; omega
  have h6 : (r - y) * (r - y) = 0 := by unfold dsq at hds; omega
  have h7 : c - x = 0 := by rcases Int.mul_eq_zero.mp h5 with q | q <;> exact q
  have h8 : r - y = 0 := by rcases Int.mul_eq_zero.mp h6 with q | q <;> exact q
  have e1 : c = x := by omega
  have e2 : r = y := by omega
  unfold cdB; rw [e1, e2, unl_self]; rfl
theorem sk_far2 {b f ds D : Int} {A : Prop} (h0 : ¬ b = -1) (h : f ≤ ds) (hds : ds = D) : A ∨ (b ≠ -1 ∧ f ≤ D) := Or.inr ⟨h0, by omega⟩
/-- the nearest place told below, and above -/
def dnR (T : Int → Int) : Nat → Int
  | 0 => 0
  | n + 1 => if T ((n : Int) + 1) = -1 then dnR T n else (n : Int) + 1
theorem dnR_s (T : Int → Int) {v : Int} (hv : 0 < v) : dnR T v.toNat = if T v = -1 then dnR T (v - 1).toNat else v := by
  have h1 : v.toNat = (v - 1).toNat + 1 := by omega
  have h2 : (((v - 1).toNat : Nat) : Int) + 1 = v := by omega
  rw [h1]; show (if T ((((v - 1).toNat : Nat) : Int) + 1) = -1 then dnR T (v - 1).toNat else (((v - 1).toNat : Nat) : Int) + 1) = _
  rw [h2]
def upR (T : Int → Int) : Nat → Int → Int
  | 0, v => v
  | n + 1, v => if T v = -1 then upR T n (v + 1) else v
theorem upR_s (T : Int → Int) {v : Int} (hv : v < 255) : upR T (255 - v).toNat v = if T v = -1 then upR T (255 - (v + 1)).toNat (v + 1) else v := by
  have h1 : (255 - v).toNat = (255 - (v + 1)).toNat + 1 := by omega
  rw [h1]; rfl
def tcV (T : Int → Int) (b : Int) : Int := if dnR T b.toNat = b then T (dnR T b.toNat) else T (dnR T b.toNat) + ((T (upR T (255 - b).toNat b) - T (dnR T b.toNat)) * (b - dnR T b.toNat)).tdiv (upR T (255 - b).toNat b - dnR T b.toNat)

theorem row_b {CN CG CS : Int → Int} {c : Int} (h : clIn CN CG CS c) : 1 ≤ CN c / CG c ∧ CN c / CG c ≤ 288 := by
  obtain ⟨h1, h2, -, h4⟩ := h
  have h5 : 0 ≤ CN c / CG c := Int.ediv_nonneg (by omega) (by omega)
  constructor
  · apply Int.not_lt.mp; intro q
    rw [show CN c / CG c = 0 by omega, Int.mul_zero] at h4; omega
  · have := mul_b (a := CG c - 1) (b := CN c / CG c) (A := CG c - 1) (B := CN c / CG c) (by omega) (by omega)
    rw [Int.sub_mul, Int.one_mul] at this; omega

set_option maxHeartbeats 4000000 in
set_option maxRecDepth 100000 in
theorem c_X5_lenderOf (l : Launch) (G : zG) (md ma mb mc mt m1 m2 m3 m4 m5 m6 m7 : Nat) (th w h cnt most rch tl nc : Int) (M Y C T CA CB CN CG CS Z K : Int → Int) (x y : Int) (hm : mdOK w h cnt most rch tl nc M Y C T CN CG CS K) (hxx : 0 ≤ x ∧ x < w) (hyy : 0 ≤ y ∧ y < h) : zRd l yX5_lenderOf cX5_lenderOf 12 (some .int) { frames := 4, cells := 0, slots := 0, locals := 97 } G [.ref md, .int (zI (x)), .int (zI (y))] (mdL G md ma mb mc mt m1 m2 m3 m4 m5 m6 m7 th w h cnt most rch tl nc M Y C T CA CB CN CG CS Z K) (lendV w h rch x y (cdB M (PPf Y w (w * h)) (w * h) cnt w (x + w * y))) := by
  refine Met.ofW (cc := cX5_lenderOf) (maxL := 12) (ret := (some .int)) (by decide) rfl ?_
  intro p e s m args below meth c s₁ B hml hv
  obtain ⟨rfl, hP, hK⟩ := hv
  have hx := B.exec
  have hb := B.bytes
  have hr := B.returns
  have hT : ∀ w ∈ TB, w.before _ s = true := fun w h => atoms_spec (ws := Cond.code yX5_lenderOf cX5_lenderOf 12 (some .int) :: TB) B.pre w (List.mem_cons_of_mem _ h)
  have hown : s.vm.findClass RX5 = some m.cls := findClass_of_methodNamed B.named
  have hlocks := B.notSynchronized
  have hl := lv_entry ([.ref md, .int (zI (x)), .int (zI (y))]) (n := 12) (Nat.le_of_ble_eq_true rfl)
  rw [lg_entry_eq]
  generalize (lg_sl ([.ref md, .int (zI (x)), .int (zI (y))]) ++ List.replicate (12 - (lg_sl ([.ref md, .int (zI (x)), .int (zI (y))])).length) Slot.unset).toArray = ls at hl ⊢
  have hl : lv_has ls 12 [(0, .ref md), (1, .int (zI (x))), (2, .int (zI (y)))] := hl
  obtain ⟨hw, hh, hcnt, hmost, hrch, hM, hY, hC, hTb, hT0, hT5, htl, hnc, hcl, hKb⟩ := id hm
  have hpt := md_pts hm
  have hPb : ∀ j, 0 ≤ PPf Y w (w * h) j ∧ PPf Y w (w * h) j ≤ 255 := fun j => hY _
  have hpq := pt_b hxx hyy
  have hlt := lightV_b hM hPb (w * h) cnt
  refine z_iconst hx hb dX5_lenderOf_0 ?_
  refine lv_istore_n (lv' := [(3, .int (zI ((-1)))), (0, .ref md), (1, .int (zI (x))), (2, .int (zI (y)))]) hx hb dX5_lenderOf_1 rfl hl (by decide) rfl (fun ls hl => ?_)
  refine z_iconst hx hb dX5_lenderOf_2 ?_
  refine lv_istore (lv' := [(4, .int (zI (0))), (3, .int (zI ((-1)))), (0, .ref md), (1, .int (zI (x))), (2, .int (zI (y)))]) hx hb dX5_lenderOf_3 hl (by decide) rfl (fun ls hl => ?_)
  refine lv_aload_n hx hb dX5_lenderOf_5 rfl (lv_at hl 2 rfl) ?_
  refine lv_iload_n hx hb dX5_lenderOf_6 rfl (lv_at hl 3 rfl) ?_
  refine lv_iload_n hx hb dX5_lenderOf_7 rfl (lv_at hl 4 rfl) ?_
  refine z_callV (q0 := 0) (G := G) (As := [.int (zI (x)), .int (zI (y))]) (rest := []) hx hb hml hown hT hK (c_X5_lightness l G md ma mb mc mt m1 m2 m3 m4 m5 m6 m7 th w h cnt most rch tl nc M Y C T CA CB CN CG CS Z K (x) (y) hm (by omega) (by omega)) kc_X5_99 ⟨Nat.le_of_ble_eq_true rfl, Nat.le_of_ble_eq_true rfl⟩ ⟨rfl, rfl⟩ ⟨Nat.zero_le _, Nat.zero_le _⟩ hP rfl rfl rfl rfl hl.1 rfl (Nat.le_of_ble_eq_true rfl) dX5_lenderOf_8 ?_
  have hl1 := hlt (x + w * y)
  refine lv_istore (lv' := [(5, .int (zI ((lightV M (PPf Y w (w * h)) (w * h) cnt (x + w * y))))), (4, .int (zI (0))), (3, .int (zI ((-1)))), (0, .ref md), (1, .int (zI (x))), (2, .int (zI (y)))]) hx hb dX5_lenderOf_11 hl (by decide) rfl (fun ls hl => ?_)
  refine z_iconst hx hb dX5_lenderOf_13 ?_
  refine lv_istore (lv' := [(6, .int (zI (0))), (5, .int (zI ((lightV M (PPf Y w (w * h)) (w * h) cnt (x + w * y))))), (4, .int (zI (0))), (3, .int (zI ((-1)))), (0, .ref md), (1, .int (zI (x))), (2, .int (zI (y)))]) hx hb dX5_lenderOf_14 hl (by decide) rfl (fun ls hl => ?_)
  refine z_loop (σ := Int × Int × Int × Array Slot) (fun zq => F0 m 16 (zq.2.2.2) []) (fun zq => ((0 ≤ zq.1 ∧ zq.1 ≤ h) ∧ ((-1 ≤ zq.2.1 ∧ zq.2.1 ≤ 100000) ∧ (0 ≤ zq.2.2.1 ∧ zq.2.2.1 ≤ 100000)) ∧ bestS w h rch x y (cdB M (PPf Y w (w * h)) (w * h) cnt w (x + w * y)) (fun c r => r < zq.1) zq.2.1 zq.2.2.1) ∧ lv_has (zq.2.2.2) 12 [(0, .ref md), (1, .int (zI (x))), (2, .int (zI (y))), (5, .int (zI ((lightV M (PPf Y w (w * h)) (w * h) cnt (x + w * y))))), (3, .int (zI (zq.2.1))), (4, .int (zI (zq.2.2.1))), (6, .int (zI (zq.1)))]) (fun zq => (h - zq.1).toNat) ?_ (0, (-1), 0, ls) ⟨⟨by dsimp only; omega, by dsimp only; omega, best_0 (fun c r hw9 hs9 => by unfold inWin at hw9; omega)⟩, lv_sub hl [4, 5, 6, 1, 3, 2, 0] rfl⟩
  intro zq hq ih
  obtain ⟨v, b0, f0, ls⟩ := zq
  obtain ⟨⟨hI, hRn, hBs⟩, hl⟩ := hq
  try dsimp only at hI hRn hBs hl ih ⊢
  have ih16 := ih
  refine lv_iload hx hb dX5_lenderOf_16 (lv_at hl 6 rfl) ?_
  refine lv_aload_n hx hb dX5_lenderOf_18 rfl (lv_at hl 0 rfl) ?_
  refine gf_X5_59 hx hb hT hown hK hP 0 rfl rfl dX5_lenderOf_19 ?_
  refine z_icmp_ge (tgt := 182) hx hb dX5_lenderOf_22 (by decide) (by omega) (by omega) (fun h22 => ?_) (fun h22 => ?_)
  · skip
    refine lv_iload_n hx hb dX5_lenderOf_182 rfl (lv_at hl 4 rfl) ?_
    exact z_iret hx hb hr hlocks (lend_eq (best_congr (fun c r hw9 => by unfold inWin at hw9; constructor <;> intro h9 <;> first | trivial | omega) hBs)) dX5_lenderOf_183
  · skip
    refine z_iconst hx hb dX5_lenderOf_25 ?_
    refine lv_istore (lv' := [(7, .int (zI (0))), (0, .ref md), (1, .int (zI (x))), (2, .int (zI (y))), (5, .int (zI ((lightV M (PPf Y w (w * h)) (w * h) cnt (x + w * y))))), (3, .int (zI (b0))), (4, .int (zI (f0))), (6, .int (zI (v)))]) hx hb dX5_lenderOf_26 hl (by decide) rfl (fun ls hl => ?_)
    refine z_loop (σ := Int × Int × Int × Array Slot) (fun zq => F0 m 28 (zq.2.2.2) []) (fun zq => ((0 ≤ zq.1 ∧ zq.1 ≤ w) ∧ ((-1 ≤ zq.2.1 ∧ zq.2.1 ≤ 100000) ∧ (0 ≤ zq.2.2.1 ∧ zq.2.2.1 ≤ 100000)) ∧ bestS w h rch x y (cdB M (PPf Y w (w * h)) (w * h) cnt w (x + w * y)) (fun c r => r < v ∨ (r = v ∧ c < zq.1)) zq.2.1 zq.2.2.1) ∧ lv_has (zq.2.2.2) 12 [(0, .ref md), (1, .int (zI (x))), (2, .int (zI (y))), (5, .int (zI ((lightV M (PPf Y w (w * h)) (w * h) cnt (x + w * y))))), (3, .int (zI (zq.2.1))), (4, .int (zI (zq.2.2.1))), (6, .int (zI (v))), (7, .int (zI (zq.1)))]) (fun zq => (w - zq.1).toNat) ?_ (0, b0, f0, ls) ⟨⟨by dsimp only; omega, hRn, best_congr (fun c r hw9 => by unfold inWin at hw9; constructor <;> intro h9 <;> omega) hBs⟩, lv_sub hl [1, 2, 3, 4, 5, 6, 7, 0] rfl⟩
    intro zq hq ih
    obtain ⟨u, b1, f1, ls⟩ := zq
    obtain ⟨⟨hI1, hRn, hBs⟩, hl⟩ := hq
    try dsimp only at hI1 hRn hBs hl ih ⊢
    have ih28 := ih
    refine lv_iload hx hb dX5_lenderOf_28 (lv_at hl 7 rfl) ?_
    refine lv_aload_n hx hb dX5_lenderOf_30 rfl (lv_at hl 0 rfl) ?_
    refine gf_X5_56 hx hb hT hown hK hP 0 rfl rfl dX5_lenderOf_31 ?_
    refine z_icmp_ge (tgt := 176) hx hb dX5_lenderOf_34 (by decide) (by omega) (by omega) (fun h34 => ?_) (fun h34 => ?_)
    · skip
      refine lv_iinc (v := zI (v + (1))) (lv' := [(6, .int (zI (v + (1)))), (0, .ref md), (1, .int (zI (x))), (2, .int (zI (y))), (5, .int (zI ((lightV M (PPf Y w (w * h)) (w * h) cnt (x + w * y))))), (3, .int (zI (b1))), (4, .int (zI (f1))), (7, .int (zI (u)))]) hx hb dX5_lenderOf_176 hl (k := 6) rfl (zI_add _ _) (by decide) rfl (fun ls hl => ?_)
      refine z_goto (tgt := 16) hx hb dX5_lenderOf_179 (by decide) ?_
      exact ih16 (v + (1), b1, f1, ls) ⟨⟨by dsimp only; omega, hRn, best_congr (fun c r hw9 => by unfold inWin at hw9; constructor <;> intro h9 <;> omega) hBs⟩, lv_sub hl [1, 2, 3, 4, 5, 6, 0] rfl⟩ (by omega)
    · skip
      have hpc := pt_b (w := w) (h := h) (x := u) (y := v) (by omega) (by omega)
      have hdb := dsq_b (x := x) (y := y) (c := u) (r := v) (by omega) (by omega)
      obtain ⟨ds, hds⟩ : ∃ z : Int, z = dsq x y u v := ⟨_, rfl⟩
      have hl2 := hlt (u + w * v)
      refine lv_iload hx hb dX5_lenderOf_37 (lv_at hl 7 rfl) ?_
      refine lv_iload_n hx hb dX5_lenderOf_39 rfl (lv_at hl 1 rfl) ?_
      refine z_isub hx hb dX5_lenderOf_40 ?_
      refine lv_istore (lv' := [(8, .int (zI ((u - x)))), (0, .ref md), (1, .int (zI (x))), (2, .int (zI (y))), (5, .int (zI ((lightV M (PPf Y w (w * h)) (w * h) cnt (x + w * y))))), (3, .int (zI (b1))), (4, .int (zI (f1))), (6, .int (zI (v))), (7, .int (zI (u)))]) hx hb dX5_lenderOf_41 hl (by decide) rfl (fun ls hl => ?_)
      refine lv_iload hx hb dX5_lenderOf_43 (lv_at hl 7 rfl) ?_
      refine lv_iload_n hx hb dX5_lenderOf_45 rfl (lv_at hl 3 rfl) ?_
      refine z_isub hx hb dX5_lenderOf_46 ?_
      refine lv_istore (lv' := [(9, .int (zI ((v - y)))), (8, .int (zI ((u - x)))), (0, .ref md), (1, .int (zI (x))), (2, .int (zI (y))), (5, .int (zI ((lightV M (PPf Y w (w * h)) (w * h) cnt (x + w * y))))), (3, .int (zI (b1))), (4, .int (zI (f1))), (6, .int (zI (v))), (7, .int (zI (u)))]) hx hb dX5_lenderOf_47 hl (by decide) rfl (fun ls hl => ?_)
      refine lv_iload hx hb dX5_lenderOf_49 (lv_at hl 1 rfl) ?_
      refine lv_iload hx hb dX5_lenderOf_51 (lv_at hl 1 rfl) ?_
      refine z_imul hx hb dX5_lenderOf_53 ?_
      refine lv_iload hx hb dX5_lenderOf_54 (lv_at hl 0 rfl) ?_
      refine lv_iload hx hb dX5_lenderOf_56 (lv_at hl 0 rfl) ?_
      refine z_imul hx hb dX5_lenderOf_58 ?_
      refine z_iadd hx hb dX5_lenderOf_59 ?_
      refine z_top (ds) (hds.symm) ?_
      refine lv_istore (lv' := [(10, .int (zI (ds))), (9, .int (zI ((v - y)))), (8, .int (zI ((u - x)))), (0, .ref md), (1, .int (zI (x))), (2, .int (zI (y))), (5, .int (zI ((lightV M (PPf Y w (w * h)) (w * h) cnt (x + w * y))))), (3, .int (zI (b1))), (4, .int (zI (f1))), (6, .int (zI (v))), (7, .int (zI (u)))]) hx hb dX5_lenderOf_60 hl (by decide) rfl (fun ls hl => ?_)
      refine z_cut (σ := Array Slot) (fun zq => F0 m 110 (zq) [.int (zI (bI (decide (((u - x) ≤ rch ∧ -(u - x) ≤ rch) ∧ ((v - y) ≤ rch ∧ -(v - y) ≤ rch) ∧ 0 < ds))))]) (fun zq => (True) ∧ lv_has (zq) 12 [(10, .int (zI (ds))), (9, .int (zI ((v - y)))), (8, .int (zI ((u - x)))), (0, .ref md), (1, .int (zI (x))), (2, .int (zI (y))), (5, .int (zI ((lightV M (PPf Y w (w * h)) (w * h) cnt (x + w * y))))), (3, .int (zI (b1))), (4, .int (zI (f1))), (6, .int (zI (v))), (7, .int (zI (u)))]) ?_ ?_
      · intro ls hq
        obtain ⟨hJ, hl⟩ := hq
        try dsimp only at hJ hl ⊢
        refine lv_istore (lv' := [(11, .int (zI (bI (decide (((u - x) ≤ rch ∧ -(u - x) ≤ rch) ∧ ((v - y) ≤ rch ∧ -(v - y) ≤ rch) ∧ 0 < ds))))), (10, .int (zI (ds))), (9, .int (zI ((v - y)))), (8, .int (zI ((u - x)))), (0, .ref md), (1, .int (zI (x))), (2, .int (zI (y))), (5, .int (zI ((lightV M (PPf Y w (w * h)) (w * h) cnt (x + w * y))))), (3, .int (zI (b1))), (4, .int (zI (f1))), (6, .int (zI (v))), (7, .int (zI (u)))]) hx hb dX5_lenderOf_110 hl (by decide) rfl (fun ls hl => ?_)
        refine lv_iload hx hb dX5_lenderOf_112 (lv_at hl 0 rfl) ?_
        have hn8 := bI_01 (decide (((u - x) ≤ rch ∧ -(u - x) ≤ rch) ∧ ((v - y) ≤ rch ∧ -(v - y) ≤ rch) ∧ 0 < ds))
        refine z_if_eq (tgt := 170) hx hb dX5_lenderOf_114 (by decide) (by omega) (fun h114 => ?_) (fun h114 => ?_)
        · skip
          refine lv_iinc (v := zI (u + (1))) (lv' := [(7, .int (zI (u + (1)))), (11, .int (zI (bI (decide (((u - x) ≤ rch ∧ -(u - x) ≤ rch) ∧ ((v - y) ≤ rch ∧ -(v - y) ≤ rch) ∧ 0 < ds))))), (10, .int (zI (ds))), (9, .int (zI ((v - y)))), (8, .int (zI ((u - x)))), (0, .ref md), (1, .int (zI (x))), (2, .int (zI (y))), (5, .int (zI ((lightV M (PPf Y w (w * h)) (w * h) cnt (x + w * y))))), (3, .int (zI (b1))), (4, .int (zI (f1))), (6, .int (zI (v)))]) hx hb dX5_lenderOf_170 hl (k := 11) rfl (zI_add _ _) (by decide) rfl (fun ls hl => ?_)
          refine z_goto (tgt := 28) hx hb dX5_lenderOf_173 (by decide) ?_
          exact ih28 (u + (1), b1, f1, ls) ⟨⟨by dsimp only; omega, hRn, best_skip hBs (by first | exact sk_near h114 hds | exact sk_far2 h119 h126 hds | exact sk_unl h139 | exact sk_lit h152)⟩, lv_sub hl [5, 6, 7, 8, 9, 10, 11, 0] rfl⟩ (by omega)
        · skip
          refine z_cut (σ := Array Slot) (fun zq => F0 m 129 (zq) []) (fun zq => (b1 = -1 ∨ ds < f1) ∧ lv_has (zq) 12 [(11, .int (zI (bI (decide (((u - x) ≤ rch ∧ -(u - x) ≤ rch) ∧ ((v - y) ≤ rch ∧ -(v - y) ≤ rch) ∧ 0 < ds))))), (10, .int (zI (ds))), (9, .int (zI ((v - y)))), (8, .int (zI ((u - x)))), (0, .ref md), (1, .int (zI (x))), (2, .int (zI (y))), (5, .int (zI ((lightV M (PPf Y w (w * h)) (w * h) cnt (x + w * y))))), (3, .int (zI (b1))), (4, .int (zI (f1))), (6, .int (zI (v))), (7, .int (zI (u)))]) ?_ ?_
          · intro ls hq
            obtain ⟨hJ129, hl⟩ := hq
            try dsimp only at hJ129 hl ⊢
            refine lv_aload_n hx hb dX5_lenderOf_129 rfl (lv_at hl 4 rfl) ?_
            refine lv_iload_n hx hb dX5_lenderOf_130 rfl (lv_at hl 5 rfl) ?_
            refine lv_iload_n hx hb dX5_lenderOf_131 rfl (lv_at hl 6 rfl) ?_
            refine lv_iload hx hb dX5_lenderOf_132 (lv_at hl 11 rfl) ?_
            refine lv_iload hx hb dX5_lenderOf_134 (lv_at hl 10 rfl) ?_
            refine z_callV (q0 := 0) (G := G) (As := [.int (zI (x)), .int (zI (y)), .int (zI (u)), .int (zI (v))]) (rest := []) hx hb hml hown hT hK (c_X5_areUnlike l G md ma mb mc mt m1 m2 m3 m4 m5 m6 m7 th w h cnt most rch tl nc M Y C T CA CB CN CG CS Z K (x) (y) (u) (v) hm (by omega) (by omega) (by omega) (by omega)) kc_X5_102 ⟨Nat.le_of_ble_eq_true rfl, Nat.le_of_ble_eq_true rfl⟩ ⟨rfl, rfl⟩ ⟨Nat.zero_le _, Nat.zero_le _⟩ hP rfl rfl rfl rfl hl.1 rfl (Nat.le_of_ble_eq_true rfl) dX5_lenderOf_136 ?_
            have hu := bI_01 (unlB (PPf Y w (w * h)) (w * h) cnt (x + w * y) (u + w * v))
            refine z_if_eq (tgt := 170) hx hb dX5_lenderOf_139 (by decide) (by omega) (fun h139 => ?_) (fun h139 => ?_)
            · skip
              refine lv_iinc (v := zI (u + (1))) (lv' := [(7, .int (zI (u + (1)))), (11, .int (zI (bI (decide (((u - x) ≤ rch ∧ -(u - x) ≤ rch) ∧ ((v - y) ≤ rch ∧ -(v - y) ≤ rch) ∧ 0 < ds))))), (10, .int (zI (ds))), (9, .int (zI ((v - y)))), (8, .int (zI ((u - x)))), (0, .ref md), (1, .int (zI (x))), (2, .int (zI (y))), (5, .int (zI ((lightV M (PPf Y w (w * h)) (w * h) cnt (x + w * y))))), (3, .int (zI (b1))), (4, .int (zI (f1))), (6, .int (zI (v)))]) hx hb dX5_lenderOf_170 hl (k := 11) rfl (zI_add _ _) (by decide) rfl (fun ls hl => ?_)
              refine z_goto (tgt := 28) hx hb dX5_lenderOf_173 (by decide) ?_
              exact ih28 (u + (1), b1, f1, ls) ⟨⟨by dsimp only; omega, hRn, best_skip hBs (by first | exact sk_near h114 hds | exact sk_far2 h119 h126 hds | exact sk_unl h139 | exact sk_lit h152)⟩, lv_sub hl [5, 6, 7, 8, 9, 10, 11, 0] rfl⟩ (by omega)
            · skip
              refine lv_aload_n hx hb dX5_lenderOf_142 rfl (lv_at hl 4 rfl) ?_
              refine lv_iload hx hb dX5_lenderOf_143 (lv_at hl 11 rfl) ?_
              refine lv_iload hx hb dX5_lenderOf_145 (lv_at hl 10 rfl) ?_
              refine z_callV (q0 := 0) (G := G) (As := [.int (zI (u)), .int (zI (v))]) (rest := []) hx hb hml hown hT hK (c_X5_lightness l G md ma mb mc mt m1 m2 m3 m4 m5 m6 m7 th w h cnt most rch tl nc M Y C T CA CB CN CG CS Z K (u) (v) hm (by omega) (by omega)) kc_X5_99 ⟨Nat.le_of_ble_eq_true rfl, Nat.le_of_ble_eq_true rfl⟩ ⟨rfl, rfl⟩ ⟨Nat.zero_le _, Nat.zero_le _⟩ hP rfl rfl rfl rfl hl.1 rfl (Nat.le_of_ble_eq_true rfl) dX5_lenderOf_147 ?_
              refine lv_iload hx hb dX5_lenderOf_150 (lv_at hl 7 rfl) ?_
              refine z_icmp_le (tgt := 170) hx hb dX5_lenderOf_152 (by decide) (by omega) (by omega) (fun h152 => ?_) (fun h152 => ?_)
              · skip
                refine lv_iinc (v := zI (u + (1))) (lv' := [(7, .int (zI (u + (1)))), (11, .int (zI (bI (decide (((u - x) ≤ rch ∧ -(u - x) ≤ rch) ∧ ((v - y) ≤ rch ∧ -(v - y) ≤ rch) ∧ 0 < ds))))), (10, .int (zI (ds))), (9, .int (zI ((v - y)))), (8, .int (zI ((u - x)))), (0, .ref md), (1, .int (zI (x))), (2, .int (zI (y))), (5, .int (zI ((lightV M (PPf Y w (w * h)) (w * h) cnt (x + w * y))))), (3, .int (zI (b1))), (4, .int (zI (f1))), (6, .int (zI (v)))]) hx hb dX5_lenderOf_170 hl (k := 11) rfl (zI_add _ _) (by decide) rfl (fun ls hl => ?_)
                refine z_goto (tgt := 28) hx hb dX5_lenderOf_173 (by decide) ?_
                exact ih28 (u + (1), b1, f1, ls) ⟨⟨by dsimp only; omega, hRn, best_skip hBs (by first | exact sk_near h114 hds | exact sk_far2 h119 h126 hds | exact sk_unl h139 | exact sk_lit h152)⟩, lv_sub hl [5, 6, 7, 8, 9, 10, 11, 0] rfl⟩ (by omega)
              · skip
                refine lv_iload hx hb dX5_lenderOf_155 (lv_at hl 11 rfl) ?_
                refine lv_aload_n hx hb dX5_lenderOf_157 rfl (lv_at hl 4 rfl) ?_
                refine gf_X5_56 hx hb hT hown hK hP 0 rfl rfl dX5_lenderOf_158 ?_
                refine lv_iload hx hb dX5_lenderOf_161 (lv_at hl 10 rfl) ?_
                refine z_imul hx hb dX5_lenderOf_163 ?_
                refine z_iadd hx hb dX5_lenderOf_164 ?_
                refine lv_istore_n (lv' := [(3, .int (zI ((u + (w * v))))), (11, .int (zI (bI (decide (((u - x) ≤ rch ∧ -(u - x) ≤ rch) ∧ ((v - y) ≤ rch ∧ -(v - y) ≤ rch) ∧ 0 < ds))))), (10, .int (zI (ds))), (9, .int (zI ((v - y)))), (8, .int (zI ((u - x)))), (0, .ref md), (1, .int (zI (x))), (2, .int (zI (y))), (5, .int (zI ((lightV M (PPf Y w (w * h)) (w * h) cnt (x + w * y))))), (4, .int (zI (f1))), (6, .int (zI (v))), (7, .int (zI (u)))]) hx hb dX5_lenderOf_165 rfl hl (by decide) rfl (fun ls hl => ?_)
                refine lv_iload hx hb dX5_lenderOf_166 (lv_at hl 2 rfl) ?_
                refine lv_istore (lv' := [(4, .int (zI (ds))), (3, .int (zI ((u + (w * v))))), (11, .int (zI (bI (decide (((u - x) ≤ rch ∧ -(u - x) ≤ rch) ∧ ((v - y) ≤ rch ∧ -(v - y) ≤ rch) ∧ 0 < ds))))), (10, .int (zI (ds))), (9, .int (zI ((v - y)))), (8, .int (zI ((u - x)))), (0, .ref md), (1, .int (zI (x))), (2, .int (zI (y))), (5, .int (zI ((lightV M (PPf Y w (w * h)) (w * h) cnt (x + w * y))))), (6, .int (zI (v))), (7, .int (zI (u)))]) hx hb dX5_lenderOf_168 hl (by decide) rfl (fun ls hl => ?_)
                refine lv_iinc (v := zI (u + (1))) (lv' := [(7, .int (zI (u + (1)))), (4, .int (zI (ds))), (3, .int (zI ((u + (w * v))))), (11, .int (zI (bI (decide (((u - x) ≤ rch ∧ -(u - x) ≤ rch) ∧ ((v - y) ≤ rch ∧ -(v - y) ≤ rch) ∧ 0 < ds))))), (10, .int (zI (ds))), (9, .int (zI ((v - y)))), (8, .int (zI ((u - x)))), (0, .ref md), (1, .int (zI (x))), (2, .int (zI (y))), (5, .int (zI ((lightV M (PPf Y w (w * h)) (w * h) cnt (x + w * y))))), (6, .int (zI (v)))]) hx hb dX5_lenderOf_170 hl (k := 11) rfl (zI_add _ _) (by decide) rfl (fun ls hl => ?_)
                refine z_goto (tgt := 28) hx hb dX5_lenderOf_173 (by decide) ?_
                exact ih28 (u + (1), (u + (w * v)), ds, ls) ⟨⟨by dsimp only; omega, by dsimp only; omega, hds ▸ best_take hBs (by have hn9 := of_decide_eq_true (bI_t.mp h114); unfold inWin; omega) (by unfold cdB; rw [bI_t.mp h139, decide_eq_true (by omega)]; rfl) (hds ▸ hJ129)⟩, lv_sub hl [7, 8, 9, 10, 2, 1, 11, 0] rfl⟩ (by omega)
          intro J129
          refine lv_iload_n hx hb dX5_lenderOf_117 rfl (lv_at hl 8 rfl) ?_
          refine z_iconst hx hb dX5_lenderOf_118 ?_
          refine z_icmp_eq (tgt := 129) hx hb dX5_lenderOf_119 (by decide) (by omega) (by omega) (fun h119 => ?_) (fun h119 => ?_)
          · skip
            exact J129 (ls) ⟨by omega, lv_sub hl [0, 1, 2, 3, 4, 5, 6, 7, 8, 9, 10, 11] rfl⟩
          · skip
            refine lv_iload hx hb dX5_lenderOf_122 (lv_at hl 1 rfl) ?_
            refine lv_iload hx hb dX5_lenderOf_124 (lv_at hl 9 rfl) ?_
            refine z_icmp_ge (tgt := 170) hx hb dX5_lenderOf_126 (by decide) (by omega) (by omega) (fun h126 => ?_) (fun h126 => ?_)
            · skip
              refine lv_iinc (v := zI (u + (1))) (lv' := [(7, .int (zI (u + (1)))), (11, .int (zI (bI (decide (((u - x) ≤ rch ∧ -(u - x) ≤ rch) ∧ ((v - y) ≤ rch ∧ -(v - y) ≤ rch) ∧ 0 < ds))))), (10, .int (zI (ds))), (9, .int (zI ((v - y)))), (8, .int (zI ((u - x)))), (0, .ref md), (1, .int (zI (x))), (2, .int (zI (y))), (5, .int (zI ((lightV M (PPf Y w (w * h)) (w * h) cnt (x + w * y))))), (3, .int (zI (b1))), (4, .int (zI (f1))), (6, .int (zI (v)))]) hx hb dX5_lenderOf_170 hl (k := 11) rfl (zI_add _ _) (by decide) rfl (fun ls hl => ?_)
              refine z_goto (tgt := 28) hx hb dX5_lenderOf_173 (by decide) ?_
              exact ih28 (u + (1), b1, f1, ls) ⟨⟨by dsimp only; omega, hRn, best_skip hBs (by first | exact sk_near h114 hds | exact sk_far2 h119 h126 hds | exact sk_unl h139 | exact sk_lit h152)⟩, lv_sub hl [5, 6, 7, 8, 9, 10, 11, 0] rfl⟩ (by omega)
            · skip
              exact J129 (ls) ⟨by omega, lv_sub hl [0, 1, 2, 3, 4, 5, 6, 7, 8, 9, 10, 11] rfl⟩
      intro J110
      refine lv_iload hx hb dX5_lenderOf_62 (lv_at hl 2 rfl) ?_
      refine lv_aload_n hx hb dX5_lenderOf_64 rfl (lv_at hl 3 rfl) ?_
      refine gf_X5_26 hx hb hT hown hK hP 0 rfl rfl dX5_lenderOf_65 ?_
      refine z_icmp_gt (tgt := 109) hx hb dX5_lenderOf_68 (by decide) (by omega) (by omega) (fun h68 => ?_) (fun h68 => ?_)
      · skip
        refine z_iconst hx hb dX5_lenderOf_109 ?_
        refine z_top (bI (decide (((u - x) ≤ rch ∧ -(u - x) ≤ rch) ∧ ((v - y) ≤ rch ∧ -(v - y) ≤ rch) ∧ 0 < ds))) (bI_0 (by omega)) ?_
        exact J110 (ls) ⟨trivial, lv_sub hl [0, 1, 2, 3, 4, 5, 6, 7, 8, 9, 10] rfl⟩
      · skip
        refine lv_iload hx hb dX5_lenderOf_71 (lv_at hl 2 rfl) ?_
        refine z_ineg hx hb dX5_lenderOf_73 ?_
        refine lv_aload_n hx hb dX5_lenderOf_74 rfl (lv_at hl 3 rfl) ?_
        refine gf_X5_26 hx hb hT hown hK hP 0 rfl rfl dX5_lenderOf_75 ?_
        refine z_icmp_gt (tgt := 109) hx hb dX5_lenderOf_78 (by decide) (by omega) (by omega) (fun h78 => ?_) (fun h78 => ?_)
        · skip
          refine z_iconst hx hb dX5_lenderOf_109 ?_
          refine z_top (bI (decide (((u - x) ≤ rch ∧ -(u - x) ≤ rch) ∧ ((v - y) ≤ rch ∧ -(v - y) ≤ rch) ∧ 0 < ds))) (bI_0 (by omega)) ?_
          exact J110 (ls) ⟨trivial, lv_sub hl [0, 1, 2, 3, 4, 5, 6, 7, 8, 9, 10] rfl⟩
        · skip
          refine lv_iload hx hb dX5_lenderOf_81 (lv_at hl 1 rfl) ?_
          refine lv_aload_n hx hb dX5_lenderOf_83 rfl (lv_at hl 3 rfl) ?_
          refine gf_X5_26 hx hb hT hown hK hP 0 rfl rfl dX5_lenderOf_84 ?_
          refine z_icmp_gt (tgt := 109) hx hb dX5_lenderOf_87 (by decide) (by omega) (by omega) (fun h87 => ?_) (fun h87 => ?_)
          · skip
            refine z_iconst hx hb dX5_lenderOf_109 ?_
            refine z_top (bI (decide (((u - x) ≤ rch ∧ -(u - x) ≤ rch) ∧ ((v - y) ≤ rch ∧ -(v - y) ≤ rch) ∧ 0 < ds))) (bI_0 (by omega)) ?_
            exact J110 (ls) ⟨trivial, lv_sub hl [0, 1, 2, 3, 4, 5, 6, 7, 8, 9, 10] rfl⟩
          · skip
            refine lv_iload hx hb dX5_lenderOf_90 (lv_at hl 1 rfl) ?_
            refine z_ineg hx hb dX5_lenderOf_92 ?_
            refine lv_aload_n hx hb dX5_lenderOf_93 rfl (lv_at hl 3 rfl) ?_
            refine gf_X5_26 hx hb hT hown hK hP 0 rfl rfl dX5_lenderOf_94 ?_
            refine z_icmp_gt (tgt := 109) hx hb dX5_lenderOf_97 (by decide) (by omega) (by omega) (fun h97 => ?_) (fun h97 => ?_)
            · skip
              refine z_iconst hx hb dX5_lenderOf_109 ?_
              refine z_top (bI (decide (((u - x) ≤ rch ∧ -(u - x) ≤ rch) ∧ ((v - y) ≤ rch ∧ -(v - y) ≤ rch) ∧ 0 < ds))) (bI_0 (by omega)) ?_
              exact J110 (ls) ⟨trivial, lv_sub hl [0, 1, 2, 3, 4, 5, 6, 7, 8, 9, 10] rfl⟩
            · skip
              refine lv_iload hx hb dX5_lenderOf_100 (lv_at hl 0 rfl) ?_
              refine z_if_le (tgt := 109) hx hb dX5_lenderOf_102 (by decide) (by omega) (fun h102 => ?_) (fun h102 => ?_)
              · skip
                refine z_iconst hx hb dX5_lenderOf_109 ?_
                refine z_top (bI (decide (((u - x) ≤ rch ∧ -(u - x) ≤ rch) ∧ ((v - y) ≤ rch ∧ -(v - y) ≤ rch) ∧ 0 < ds))) (bI_0 (by omega)) ?_
                exact J110 (ls) ⟨trivial, lv_sub hl [0, 1, 2, 3, 4, 5, 6, 7, 8, 9, 10] rfl⟩
              · skip
                refine z_iconst hx hb dX5_lenderOf_105 ?_
                refine z_goto (tgt := 110) hx hb dX5_lenderOf_106 (by decide) ?_
                refine z_top (bI (decide (((u - x) ≤ rch ∧ -(u - x) ≤ rch) ∧ ((v - y) ≤ rch ∧ -(v - y) ≤ rch) ∧ 0 < ds))) (bI_1 (by omega)) ?_
                exact J110 (ls) ⟨trivial, lv_sub hl [0, 1, 2, 3, 4, 5, 6, 7, 8, 9, 10] rfl⟩

set_option maxHeartbeats 4000000 in
set_option maxRecDepth 100000 in
theorem c_X5_curve (l : Launch) (G : zG) (md ma mb mc mt m1 m2 m3 m4 m5 m6 m7 : Nat) (th w h cnt most rch tl nc : Int) (M Y C T CA CB CN CG CS Z K : Int → Int) (b : Int) (hm : mdOK w h cnt most rch tl nc M Y C T CN CG CS K) (hb5 : 0 ≤ b ∧ b ≤ 255) : zRd l yX5_curve cX5_curve 4 (some .int) { frames := 0, cells := 0, slots := 0, locals := 0 } G [.ref md, .int (zI (b))] (mdL G md ma mb mc mt m1 m2 m3 m4 m5 m6 m7 th w h cnt most rch tl nc M Y C T CA CB CN CG CS Z K) (tcV T b) := by
  refine Met.ofW (cc := cX5_curve) (maxL := 4) (ret := (some .int)) (by decide) rfl ?_
  intro p e s m args below meth c s₁ B hml hv
  obtain ⟨rfl, hP, hK⟩ := hv
  have hx := B.exec
  have hb := B.bytes
  have hr := B.returns
  have hT : ∀ w ∈ TB, w.before _ s = true := fun w h => atoms_spec (ws := Cond.code yX5_curve cX5_curve 4 (some .int) :: TB) B.pre w (List.mem_cons_of_mem _ h)
  have hown : s.vm.findClass RX5 = some m.cls := findClass_of_methodNamed B.named
  have hlocks := B.notSynchronized
  have hl := lv_entry ([.ref md, .int (zI (b))]) (n := 4) (Nat.le_of_ble_eq_true rfl)
  rw [lg_entry_eq]
  generalize (lg_sl ([.ref md, .int (zI (b))]) ++ List.replicate (4 - (lg_sl ([.ref md, .int (zI (b))])).length) Slot.unset).toArray = ls at hl ⊢
  have hl : lv_has ls 4 [(0, .ref md), (1, .int (zI (b)))] := hl
  obtain ⟨hw, hh, hcnt, hmost, hrch, hM, hY, hC, hTb, hT0, hT5, htl, hnc, hcl, hKb⟩ := id hm
  have hpt := md_pts hm
  have hPb : ∀ j, 0 ≤ PPf Y w (w * h) j ∧ PPf Y w (w * h) j ≤ 255 := fun j => hY _
  refine lv_iload_n hx hb dX5_curve_0 rfl (lv_at hl 1 rfl) ?_
  refine lv_istore_n (lv' := [(2, .int (zI (b))), (0, .ref md), (1, .int (zI (b)))]) hx hb dX5_curve_1 rfl hl (by decide) rfl (fun ls hl => ?_)
  refine z_loop (σ := Int × Array Slot) (fun zq => F0 m 2 (zq.2) []) (fun zq => ((0 ≤ zq.1 ∧ zq.1 ≤ b) ∧ dnR T b.toNat = dnR T zq.1.toNat) ∧ lv_has (zq.2) 4 [(0, .ref md), (1, .int (zI (b))), (2, .int (zI (zq.1)))]) (fun zq => zq.1.toNat) ?_ (b, ls) ⟨⟨by dsimp only; omega, rfl⟩, lv_sub hl [1, 2, 0] rfl⟩
  intro zq hq ih
  obtain ⟨v, ls⟩ := zq
  obtain ⟨⟨hI, hI2⟩, hl⟩ := hq
  try dsimp only at hI hI2 hl ih ⊢
  have hv0 : T v = -1 → 0 < v := fun h9 => by rcases Int.lt_or_le 0 v with q | q; exact q; exact absurd (show T 0 = -1 by rw [← h9, show v = 0 by omega]) hT0
  have htv := hTb v
  have ih2 := ih
  refine lv_aload_n hx hb dX5_curve_2 rfl (lv_at hl 0 rfl) ?_
  refine gf_X5_29 hx hb hT hown hK hP 0 rfl rfl dX5_curve_3 ?_
  refine lv_iload_n hx hb dX5_curve_6 rfl (lv_at hl 2 rfl) ?_
  refine z_iald hx hb hK hP 4 rfl (⟨by omega, by omega, by omega⟩) dX5_curve_7 ?_
  refine z_iconst hx hb dX5_curve_8 ?_
  refine z_icmp_ne (tgt := 18) hx hb dX5_curve_9 (by decide) (by omega) (by omega) (fun h9 => ?_) (fun h9 => ?_)
  · skip
    have hdn : dnR T b.toNat = v := by rw [hI2]; by_cases q : v = 0; (rw [q]; rfl); rw [dnR_s T (by omega), if_neg h9]
    refine lv_iload_n hx hb dX5_curve_18 rfl (lv_at hl 2 rfl) ?_
    refine lv_iload_n hx hb dX5_curve_19 rfl (lv_at hl 1 rfl) ?_
    refine z_icmp_ne (tgt := 30) hx hb dX5_curve_20 (by decide) (by omega) (by omega) (fun h20 => ?_) (fun h20 => ?_)
    · skip
      refine lv_iload_n hx hb dX5_curve_30 rfl (lv_at hl 1 rfl) ?_
      refine lv_istore_n (lv' := [(3, .int (zI (b))), (0, .ref md), (1, .int (zI (b))), (2, .int (zI (v)))]) hx hb dX5_curve_31 rfl hl (by decide) rfl (fun ls hl => ?_)
      refine z_loop (σ := Int × Array Slot) (fun zq => F0 m 32 (zq.2) []) (fun zq => ((b ≤ zq.1 ∧ zq.1 ≤ 255) ∧ upR T (255 - b).toNat b = upR T (255 - zq.1).toNat zq.1) ∧ lv_has (zq.2) 4 [(0, .ref md), (1, .int (zI (b))), (2, .int (zI (v))), (3, .int (zI (zq.1)))]) (fun zq => (255 - zq.1).toNat) ?_ (b, ls) ⟨⟨by dsimp only; omega, rfl⟩, lv_sub hl [1, 2, 3, 0] rfl⟩
      intro zq hq ih
      obtain ⟨u, ls⟩ := zq
      obtain ⟨⟨hJ, hJ2⟩, hl⟩ := hq
      try dsimp only at hJ hJ2 hl ih ⊢
      have hu5 : T u = -1 → u < 255 := fun h9 => by rcases Int.lt_or_le u 255 with q | q; exact q; exact absurd (show T 255 = -1 by rw [← h9, show u = 255 by omega]) hT5
      have htu := hTb u
      have ih32 := ih
      refine lv_aload_n hx hb dX5_curve_32 rfl (lv_at hl 0 rfl) ?_
      refine gf_X5_29 hx hb hT hown hK hP 0 rfl rfl dX5_curve_33 ?_
      refine lv_iload_n hx hb dX5_curve_36 rfl (lv_at hl 3 rfl) ?_
      refine z_iald hx hb hK hP 4 rfl (⟨by omega, by omega, by omega⟩) dX5_curve_37 ?_
      refine z_iconst hx hb dX5_curve_38 ?_
      refine z_icmp_ne (tgt := 48) hx hb dX5_curve_39 (by decide) (by omega) (by omega) (fun h39 => ?_) (fun h39 => ?_)
      · skip
        have hup : upR T (255 - b).toNat b = u := by rw [hJ2]; by_cases q : u = 255; (rw [q]; rfl); rw [upR_s T (by omega), if_neg h39]
        have k5 := mul_bs (a := T u - T v) (b := b - v) (A := 256) (B := 255) (by omega) (by omega)
        refine lv_aload_n hx hb dX5_curve_48 rfl (lv_at hl 0 rfl) ?_
        refine gf_X5_29 hx hb hT hown hK hP 0 rfl rfl dX5_curve_49 ?_
        refine lv_iload_n hx hb dX5_curve_52 rfl (lv_at hl 2 rfl) ?_
        refine z_iald hx hb hK hP 4 rfl (⟨by omega, by omega, by omega⟩) dX5_curve_53 ?_
        refine lv_aload_n hx hb dX5_curve_54 rfl (lv_at hl 0 rfl) ?_
        refine gf_X5_29 hx hb hT hown hK hP 0 rfl rfl dX5_curve_55 ?_
        refine lv_iload_n hx hb dX5_curve_58 rfl (lv_at hl 3 rfl) ?_
        refine z_iald hx hb hK hP 4 rfl (⟨by omega, by omega, by omega⟩) dX5_curve_59 ?_
        refine lv_aload_n hx hb dX5_curve_60 rfl (lv_at hl 0 rfl) ?_
        refine gf_X5_29 hx hb hT hown hK hP 0 rfl rfl dX5_curve_61 ?_
        refine lv_iload_n hx hb dX5_curve_64 rfl (lv_at hl 2 rfl) ?_
        refine z_iald hx hb hK hP 4 rfl (⟨by omega, by omega, by omega⟩) dX5_curve_65 ?_
        refine z_isub hx hb dX5_curve_66 ?_
        refine lv_iload_n hx hb dX5_curve_67 rfl (lv_at hl 1 rfl) ?_
        refine lv_iload_n hx hb dX5_curve_68 rfl (lv_at hl 2 rfl) ?_
        refine z_isub hx hb dX5_curve_69 ?_
        refine z_imul hx hb dX5_curve_70 ?_
        refine lv_iload_n hx hb dX5_curve_71 rfl (lv_at hl 3 rfl) ?_
        refine lv_iload_n hx hb dX5_curve_72 rfl (lv_at hl 2 rfl) ?_
        refine z_isub hx hb dX5_curve_73 ?_
        refine z_itdiv hx hb dX5_curve_74 (by omega) (by omega) (by omega) ?_
        refine z_iadd hx hb dX5_curve_75 ?_
        exact z_iret hx hb hr hlocks (by unfold tcV; rw [hdn, hup, if_neg (by omega)]) dX5_curve_76
      · skip
        refine lv_iinc (v := zI (u + (1))) (lv' := [(3, .int (zI (u + (1)))), (0, .ref md), (1, .int (zI (b))), (2, .int (zI (v)))]) hx hb dX5_curve_42 hl (k := 3) rfl (zI_add _ _) (by decide) rfl (fun ls hl => ?_)
        refine z_goto (tgt := 32) hx hb dX5_curve_45 (by decide) ?_
        exact ih32 (u + 1, ls) ⟨⟨by dsimp only; have := hu5 h39; omega, by dsimp only; rw [hJ2, upR_s T (hu5 h39), if_pos h39]⟩, lv_sub hl [1, 2, 3, 0] rfl⟩ (by have := hu5 h39; omega)
    · skip
      refine lv_aload_n hx hb dX5_curve_23 rfl (lv_at hl 0 rfl) ?_
      refine gf_X5_29 hx hb hT hown hK hP 0 rfl rfl dX5_curve_24 ?_
      refine lv_iload_n hx hb dX5_curve_27 rfl (lv_at hl 2 rfl) ?_
      refine z_iald hx hb hK hP 4 rfl (⟨by omega, by omega, by omega⟩) dX5_curve_28 ?_
      exact z_iret hx hb hr hlocks (by unfold tcV; rw [hdn, if_pos (by omega)]) dX5_curve_29
  · skip
    refine lv_iinc (v := zI (v + (-1))) (lv' := [(2, .int (zI (v + (-1)))), (0, .ref md), (1, .int (zI (b)))]) hx hb dX5_curve_12 hl (k := 2) rfl (zI_add _ _) (by decide) rfl (fun ls hl => ?_)
    refine z_goto (tgt := 2) hx hb dX5_curve_15 (by decide) ?_
    exact ih2 (v + (-1), ls) ⟨⟨by dsimp only; have := hv0 h9; omega, by dsimp only; rw [hI2, dnR_s T (hv0 h9), if_pos h9, show v + -1 = v - 1 by omega]⟩, lv_sub hl [1, 2, 0] rfl⟩ (by have := hv0 h9; omega)

set_option maxHeartbeats 4000000 in
set_option maxRecDepth 100000 in
theorem c_X5_floorOf (l : Launch) (G : zG) (x d : Int) (hx1 : -2147483647 ≤ x ∧ x ≤ 2147483647) (hd : 0 < d ∧ d ≤ 1000000) : zRd l yX5_floorOf cX5_floorOf 3 (some .int) { frames := 0, cells := 0, slots := 0, locals := 0 } G [.int (zI (x)), .int (zI (d))] ([]) (x / d) := by
  refine Met.ofW (cc := cX5_floorOf) (maxL := 3) (ret := (some .int)) (by decide) rfl ?_
  intro p e s m args below meth c s₁ B hml hv
  obtain ⟨rfl, hP, hK⟩ := hv
  have hx := B.exec
  have hb := B.bytes
  have hr := B.returns
  have hT : ∀ w ∈ TB, w.before _ s = true := fun w h => atoms_spec (ws := Cond.code yX5_floorOf cX5_floorOf 3 (some .int) :: TB) B.pre w (List.mem_cons_of_mem _ h)
  have hown : s.vm.findClass RX5 = some m.cls := findClass_of_methodNamed B.named
  have hlocks := B.notSynchronized
  have hl := lv_entry ([.int (zI (x)), .int (zI (d))]) (n := 3) (Nat.le_of_ble_eq_true rfl)
  rw [lg_entry_eq]
  generalize (lg_sl ([.int (zI (x)), .int (zI (d))]) ++ List.replicate (3 - (lg_sl ([.int (zI (x)), .int (zI (d))])).length) Slot.unset).toArray = ls at hl ⊢
  have hl : lv_has ls 3 [(0, .int (zI (x))), (1, .int (zI (d)))] := hl
  have hdm := Int.mul_ediv_add_emod x d
  have hm1 := Int.emod_nonneg x (show d ≠ 0 by omega)
  have hm2 := Int.emod_lt_of_pos x (show 0 < d by omega)
  obtain ⟨hT1, hT2⟩ := tdiv_spec x hd
  have htm := tmod_bounds (a := x) (M := d) (by omega)
  have htb := tdiv_b x hd hx1
  refine lv_iload_n hx hb dX5_floorOf_0 rfl (lv_at hl 0 rfl) ?_
  refine lv_iload_n hx hb dX5_floorOf_1 rfl (lv_at hl 1 rfl) ?_
  refine z_itdiv hx hb dX5_floorOf_2 (by omega) (by omega) (by omega) ?_
  refine lv_istore_n (lv' := [(2, .int (zI ((Int.tdiv (x) (d))))), (0, .int (zI (x))), (1, .int (zI (d)))]) hx hb dX5_floorOf_3 rfl hl (by decide) rfl (fun ls hl => ?_)
  refine lv_iload_n hx hb dX5_floorOf_4 rfl (lv_at hl 1 rfl) ?_
  refine lv_iload_n hx hb dX5_floorOf_5 rfl (lv_at hl 2 rfl) ?_
  refine z_itrem hx hb dX5_floorOf_6 (by omega) (by omega) (by omega) ?_
  refine z_if_ge (tgt := 16) hx hb dX5_floorOf_7 (by decide) (by omega) (fun h7 => ?_) (fun h7 => ?_)
  · skip
    refine lv_iload_n hx hb dX5_floorOf_16 rfl (lv_at hl 0 rfl) ?_
    exact z_iret hx hb hr hlocks (by omega) dX5_floorOf_17
  · skip
    refine lv_iload_n hx hb dX5_floorOf_10 rfl (lv_at hl 0 rfl) ?_
    refine z_iconst hx hb dX5_floorOf_11 ?_
    refine z_isub hx hb dX5_floorOf_12 ?_
    refine z_goto (tgt := 17) hx hb dX5_floorOf_13 (by decide) ?_
    exact z_iret hx hb hr hlocks (by omega) dX5_floorOf_17

set_option maxHeartbeats 4000000 in
set_option maxRecDepth 100000 in
theorem c_X5_size (l : Launch) (G : zG) (v : Int) (hv : -1000 ≤ v ∧ v ≤ 1000) : zRd l yX5_size cX5_size 1 (some .int) { frames := 0, cells := 0, slots := 0, locals := 0 } G [.int (zI (v))] ([]) (if v < 0 then -v else v) := by
  refine Met.ofW (cc := cX5_size) (maxL := 1) (ret := (some .int)) (by decide) rfl ?_
  intro p e s m args below meth c s₁ B hml hv
  obtain ⟨rfl, hP, hK⟩ := hv
  have hx := B.exec
  have hb := B.bytes
  have hr := B.returns
  have hT : ∀ w ∈ TB, w.before _ s = true := fun w h => atoms_spec (ws := Cond.code yX5_size cX5_size 1 (some .int) :: TB) B.pre w (List.mem_cons_of_mem _ h)
  have hown : s.vm.findClass RX5 = some m.cls := findClass_of_methodNamed B.named
  have hlocks := B.notSynchronized
  have hl := lv_entry ([.int (zI (v))]) (n := 1) (Nat.le_of_ble_eq_true rfl)
  rw [lg_entry_eq]
  generalize (lg_sl ([.int (zI (v))]) ++ List.replicate (1 - (lg_sl ([.int (zI (v))])).length) Slot.unset).toArray = ls at hl ⊢
  have hl : lv_has ls 1 [(0, .int (zI (v)))] := hl
  refine lv_iload_n hx hb dX5_size_0 rfl (lv_at hl 0 rfl) ?_
  refine z_if_ge (tgt := 9) hx hb dX5_size_1 (by decide) (by omega) (fun h1 => ?_) (fun h1 => ?_)
  · skip
    refine lv_iload_n hx hb dX5_size_9 rfl (lv_at hl 0 rfl) ?_
    exact z_iret hx hb hr hlocks (by split <;> omega) dX5_size_10
  · skip
    refine lv_iload_n hx hb dX5_size_4 rfl (lv_at hl 0 rfl) ?_
    refine z_ineg hx hb dX5_size_5 ?_
    refine z_goto (tgt := 10) hx hb dX5_size_6 (by decide) ?_
    exact z_iret hx hb hr hlocks (by split <;> omega) dX5_size_10

set_option maxHeartbeats 4000000 in
set_option maxRecDepth 100000 in
theorem c_X5_sameOf (l : Launch) (G : zG) (md ma mb mc mt m1 m2 m3 m4 m5 m6 m7 : Nat) (th w h cnt most rch tl nc : Int) (M Y C T CA CB CN CG CS Z K : Int → Int) (c9 x y : Int) (hc9 : 0 ≤ c9 ∧ c9 < 6) (hci : clIn CN CG CS c9) (hxx : -1000000 ≤ x ∧ x ≤ 1000000) (hyy : -1000000 ≤ y ∧ y ≤ 1000000) : zRd l yX5_sameOf cX5_sameOf 8 (some .int) { frames := 1, cells := 0, slots := 0, locals := 22 } G [.ref md, .int (zI (c9)), .int (zI (x)), .int (zI (y))] (mdL G md ma mb mc mt m1 m2 m3 m4 m5 m6 m7 th w h cnt most rch tl nc M Y C T CA CB CN CG CS Z K) (nmV (CG c9) (CN c9 / CG c9) (CS c9) x y) := by
  refine Met.ofW (cc := cX5_sameOf) (maxL := 8) (ret := (some .int)) (by decide) rfl ?_
  intro p e s m args below meth c s₁ B hml hv
  obtain ⟨rfl, hP, hK⟩ := hv
  have hx := B.exec
  have hb := B.bytes
  have hr := B.returns
  have hT : ∀ w ∈ TB, w.before _ s = true := fun w h => atoms_spec (ws := Cond.code yX5_sameOf cX5_sameOf 8 (some .int) :: TB) B.pre w (List.mem_cons_of_mem _ h)
  have hown : s.vm.findClass RX5 = some m.cls := findClass_of_methodNamed B.named
  have hlocks := B.notSynchronized
  have hl := lv_entry ([.ref md, .int (zI (c9)), .int (zI (x)), .int (zI (y))]) (n := 8) (Nat.le_of_ble_eq_true rfl)
  rw [lg_entry_eq]
  generalize (lg_sl ([.ref md, .int (zI (c9)), .int (zI (x)), .int (zI (y))]) ++ List.replicate (8 - (lg_sl ([.ref md, .int (zI (c9)), .int (zI (x)), .int (zI (y))])).length) Slot.unset).toArray = ls at hl ⊢
  have hl : lv_has ls 8 [(0, .ref md), (1, .int (zI (c9))), (2, .int (zI (x))), (3, .int (zI (y)))] := hl
  obtain ⟨hg1, hn1, hs1, hgn⟩ := id hci
  have hk1 := dv_b (d := CG c9) (by omega) hyy
  have hk2 := mul_bs (a := y / CG c9) (b := CS c9) (A := 1000000) (B := 300) (by omega) (by omega)
  have hr1 := row_b hci
  have hdy := Int.mul_ediv_add_emod (x - y / CG c9 * CS c9) (CN c9 / CG c9)
  have hcm := Int.mul_comm ((x - y / CG c9 * CS c9) / (CN c9 / CG c9)) (CN c9 / CG c9)
  have hcn := Int.mul_comm (CN c9 / CG c9) (y - y / CG c9 * CG c9)
  refine lv_iload_n hx hb dX5_sameOf_0 rfl (lv_at hl 3 rfl) ?_
  refine lv_aload_n hx hb dX5_sameOf_1 rfl (lv_at hl 0 rfl) ?_
  refine gf_X5_44 hx hb hT hown hK hP 0 rfl rfl dX5_sameOf_2 ?_
  refine lv_iload_n hx hb dX5_sameOf_5 rfl (lv_at hl 1 rfl) ?_
  refine z_iald hx hb hK hP 8 rfl (⟨by omega, by omega, by omega⟩) dX5_sameOf_6 ?_
  refine z_callS (G := G) (As := [.int (zI (y)), .int (zI ((CG c9)))]) (rest := []) hx hb hml hown hT hK (c_X5_floorOf l G (y) ((CG c9)) (by omega) (by omega)) kc_X5_116 ⟨Nat.le_of_ble_eq_true rfl, Nat.le_of_ble_eq_true rfl⟩ ⟨rfl, rfl⟩ ⟨Nat.zero_le _, Nat.zero_le _⟩ (hP.sub [] rfl) rfl hl.1 rfl (Nat.le_of_ble_eq_true rfl) dX5_sameOf_7 ?_
  refine lv_istore (lv' := [(4, .int (zI ((y / (CG c9))))), (0, .ref md), (1, .int (zI (c9))), (2, .int (zI (x))), (3, .int (zI (y)))]) hx hb dX5_sameOf_10 hl (by decide) rfl (fun ls hl => ?_)
  refine lv_aload_n hx hb dX5_sameOf_12 rfl (lv_at hl 1 rfl) ?_
  refine gf_X5_41 hx hb hT hown hK hP 0 rfl rfl dX5_sameOf_13 ?_
  refine lv_iload_n hx hb dX5_sameOf_16 rfl (lv_at hl 2 rfl) ?_
  refine z_iald hx hb hK hP 7 rfl (⟨by omega, by omega, by omega⟩) dX5_sameOf_17 ?_
  refine lv_aload_n hx hb dX5_sameOf_18 rfl (lv_at hl 1 rfl) ?_
  refine gf_X5_44 hx hb hT hown hK hP 0 rfl rfl dX5_sameOf_19 ?_
  refine lv_iload_n hx hb dX5_sameOf_22 rfl (lv_at hl 2 rfl) ?_
  refine z_iald hx hb hK hP 8 rfl (⟨by omega, by omega, by omega⟩) dX5_sameOf_23 ?_
  refine z_idiv hx hb dX5_sameOf_24 (by omega) (by omega) ?_
  refine lv_istore (lv' := [(5, .int (zI (((CN c9) / (CG c9))))), (4, .int (zI ((y / (CG c9))))), (0, .ref md), (1, .int (zI (c9))), (2, .int (zI (x))), (3, .int (zI (y)))]) hx hb dX5_sameOf_25 hl (by decide) rfl (fun ls hl => ?_)
  refine lv_iload_n hx hb dX5_sameOf_27 rfl (lv_at hl 4 rfl) ?_
  refine lv_iload hx hb dX5_sameOf_28 (lv_at hl 1 rfl) ?_
  refine lv_aload_n hx hb dX5_sameOf_30 rfl (lv_at hl 2 rfl) ?_
  refine gf_X5_47 hx hb hT hown hK hP 0 rfl rfl dX5_sameOf_31 ?_
  refine lv_iload_n hx hb dX5_sameOf_34 rfl (lv_at hl 3 rfl) ?_
  refine z_iald hx hb hK hP 9 rfl (⟨by omega, by omega, by omega⟩) dX5_sameOf_35 ?_
  refine z_imul hx hb dX5_sameOf_36 ?_
  refine z_isub hx hb dX5_sameOf_37 ?_
  refine lv_istore (lv' := [(6, .int (zI ((x - ((y / (CG c9)) * (CS c9)))))), (5, .int (zI (((CN c9) / (CG c9))))), (4, .int (zI ((y / (CG c9))))), (0, .ref md), (1, .int (zI (c9))), (2, .int (zI (x))), (3, .int (zI (y)))]) hx hb dX5_sameOf_38 hl (by decide) rfl (fun ls hl => ?_)
  refine lv_iload_n hx hb dX5_sameOf_40 rfl (lv_at hl 6 rfl) ?_
  refine lv_iload hx hb dX5_sameOf_41 (lv_at hl 2 rfl) ?_
  refine lv_aload_n hx hb dX5_sameOf_43 rfl (lv_at hl 3 rfl) ?_
  refine gf_X5_44 hx hb hT hown hK hP 0 rfl rfl dX5_sameOf_44 ?_
  refine lv_iload_n hx hb dX5_sameOf_47 rfl (lv_at hl 4 rfl) ?_
  refine z_iald hx hb hK hP 8 rfl (⟨by omega, by omega, by omega⟩) dX5_sameOf_48 ?_
  refine z_imul hx hb dX5_sameOf_49 ?_
  refine z_isub hx hb dX5_sameOf_50 ?_
  refine lv_istore (lv' := [(7, .int (zI ((y - ((y / (CG c9)) * (CG c9)))))), (6, .int (zI ((x - ((y / (CG c9)) * (CS c9)))))), (5, .int (zI (((CN c9) / (CG c9))))), (4, .int (zI ((y / (CG c9))))), (0, .ref md), (1, .int (zI (c9))), (2, .int (zI (x))), (3, .int (zI (y)))]) hx hb dX5_sameOf_51 hl (by decide) rfl (fun ls hl => ?_)
  refine lv_iload hx hb dX5_sameOf_53 (lv_at hl 1 rfl) ?_
  refine lv_iload hx hb dX5_sameOf_55 (lv_at hl 1 rfl) ?_
  refine lv_iload hx hb dX5_sameOf_57 (lv_at hl 2 rfl) ?_
  refine z_callS (G := G) (As := [.int (zI ((x - ((y / (CG c9)) * (CS c9))))), .int (zI (((CN c9) / (CG c9))))]) (rest := [.int (zI ((x - ((y / (CG c9)) * (CS c9)))))]) hx hb hml hown hT hK (c_X5_floorOf l G ((x - ((y / (CG c9)) * (CS c9)))) (((CN c9) / (CG c9))) (by omega) (by omega)) kc_X5_116 ⟨Nat.le_of_ble_eq_true rfl, Nat.le_of_ble_eq_true rfl⟩ ⟨rfl, rfl⟩ ⟨Nat.zero_le _, Nat.zero_le _⟩ (hP.sub [] rfl) rfl hl.1 rfl (Nat.le_of_ble_eq_true rfl) dX5_sameOf_59 ?_
  refine lv_iload hx hb dX5_sameOf_62 (lv_at hl 2 rfl) ?_
  refine z_imul hx hb dX5_sameOf_64 ?_
  refine z_isub hx hb dX5_sameOf_65 ?_
  refine lv_iload hx hb dX5_sameOf_66 (lv_at hl 2 rfl) ?_
  refine lv_iload hx hb dX5_sameOf_68 (lv_at hl 0 rfl) ?_
  refine z_imul hx hb dX5_sameOf_70 ?_
  refine z_iadd hx hb dX5_sameOf_71 ?_
  exact z_iret hx hb hr hlocks (by unfold nmV; omega) dX5_sameOf_72

set_option maxHeartbeats 4000000 in
set_option maxRecDepth 100000 in
theorem c_X5_common (l : Launch) (G : zG) (a b : Int) (ha : 0 ≤ a ∧ a ≤ 100) (hb1 : 0 ≤ b ∧ b ≤ 100) : zRd l yX5_common cX5_common 4 (some .int) { frames := 0, cells := 0, slots := 0, locals := 0 } G [.int (zI (a)), .int (zI (b))] ([]) (cdR a b 11) := by
  refine Met.ofW (cc := cX5_common) (maxL := 4) (ret := (some .int)) (by decide) rfl ?_
  intro p e s m args below meth c s₁ B hml hv
  obtain ⟨rfl, hP, hK⟩ := hv
  have hx := B.exec
  have hb := B.bytes
  have hr := B.returns
  have hT : ∀ w ∈ TB, w.before _ s = true := fun w h => atoms_spec (ws := Cond.code yX5_common cX5_common 4 (some .int) :: TB) B.pre w (List.mem_cons_of_mem _ h)
  have hown : s.vm.findClass RX5 = some m.cls := findClass_of_methodNamed B.named
  have hlocks := B.notSynchronized
  have hl := lv_entry ([.int (zI (a)), .int (zI (b))]) (n := 4) (Nat.le_of_ble_eq_true rfl)
  rw [lg_entry_eq]
  generalize (lg_sl ([.int (zI (a)), .int (zI (b))]) ++ List.replicate (4 - (lg_sl ([.int (zI (a)), .int (zI (b))])).length) Slot.unset).toArray = ls at hl ⊢
  have hl : lv_has ls 4 [(0, .int (zI (a))), (1, .int (zI (b)))] := hl
  refine z_iconst hx hb dX5_common_0 ?_
  refine lv_istore_n (lv' := [(2, .int (zI (1))), (0, .int (zI (a))), (1, .int (zI (b)))]) hx hb dX5_common_1 rfl hl (by decide) rfl (fun ls hl => ?_)
  refine z_iconst hx hb dX5_common_2 ?_
  refine lv_istore_n (lv' := [(3, .int (zI (2))), (2, .int (zI (1))), (0, .int (zI (a))), (1, .int (zI (b)))]) hx hb dX5_common_3 rfl hl (by decide) rfl (fun ls hl => ?_)
  refine z_loop (σ := Int × Array Slot) (fun zq => F0 m 4 (zq.2) []) (fun zq => (2 ≤ zq.1 ∧ zq.1 ≤ 13) ∧ lv_has (zq.2) 4 [(0, .int (zI (a))), (1, .int (zI (b))), (2, .int (zI (cdR a b (zq.1 - 2).toNat))), (3, .int (zI (zq.1)))]) (fun zq => (13 - zq.1).toNat) ?_ (2, ls) ⟨by refine ⟨?_, ?_⟩ <;> omega, lv_sub hl [2, 3, 1, 0] rfl⟩
  intro zq hq ih
  obtain ⟨d, ls⟩ := zq
  obtain ⟨hI, hl⟩ := hq
  try dsimp only at hI hl ih ⊢
  have ih4 := ih
  refine lv_iload_n hx hb dX5_common_4 rfl (lv_at hl 3 rfl) ?_
  refine z_bipush hx hb dX5_common_5 (by decide +kernel) ?_
  refine z_icmp_gt (tgt := 34) hx hb dX5_common_7 (by decide) (by omega) (by omega) (fun h7 => ?_) (fun h7 => ?_)
  · skip
    refine lv_iload_n hx hb dX5_common_34 rfl (lv_at hl 2 rfl) ?_
    exact z_iret hx hb hr hlocks (by have h9 : d = 13 := (by omega); rw [h9]; rfl) dX5_common_35
  · skip
    refine lv_iload_n hx hb dX5_common_10 rfl (lv_at hl 0 rfl) ?_
    refine lv_iload_n hx hb dX5_common_11 rfl (lv_at hl 3 rfl) ?_
    refine z_itrem hx hb dX5_common_12 (by omega) (by omega) (by omega) ?_
    have ht1 := tmod_bounds (a := a) (M := d) (by omega)
    refine z_if_ne (tgt := 26) hx hb dX5_common_13 (by decide) (by omega) (fun h13 => ?_) (fun h13 => ?_)
    · skip
      refine lv_iload_n hx hb dX5_common_26 rfl (lv_at hl 2 rfl) ?_
      refine z_top (cdR a b (d - 1).toNat) (by rw [cdR_s a b (by omega)]; split <;> first | rfl | (exfalso; omega)) ?_
      refine lv_istore_n (lv' := [(2, .int (zI (cdR a b (d - 1).toNat))), (0, .int (zI (a))), (1, .int (zI (b))), (3, .int (zI (d)))]) hx hb dX5_common_27 rfl hl (by decide) rfl (fun ls hl => ?_)
      refine lv_iinc (v := zI (d + (1))) (lv' := [(3, .int (zI (d + (1)))), (2, .int (zI (cdR a b (d - 1).toNat))), (0, .int (zI (a))), (1, .int (zI (b)))]) hx hb dX5_common_28 hl (k := 3) rfl (zI_add _ _) (by decide) rfl (fun ls hl => ?_)
      refine z_goto (tgt := 4) hx hb dX5_common_31 (by decide) ?_
      rw [show d - 1 = d + 1 - 2 by omega] at hl
      exact ih4 (d + 1, ls) ⟨by refine ⟨?_, ?_⟩ <;> omega, lv_sub hl [2, 3, 1, 0] rfl⟩ (by omega)
    · skip
      refine lv_iload_n hx hb dX5_common_16 rfl (lv_at hl 1 rfl) ?_
      refine lv_iload_n hx hb dX5_common_17 rfl (lv_at hl 3 rfl) ?_
      refine z_itrem hx hb dX5_common_18 (by omega) (by omega) (by omega) ?_
      have ht2 := tmod_bounds (a := b) (M := d) (by omega)
      refine z_if_ne (tgt := 26) hx hb dX5_common_19 (by decide) (by omega) (fun h19 => ?_) (fun h19 => ?_)
      · skip
        refine lv_iload_n hx hb dX5_common_26 rfl (lv_at hl 2 rfl) ?_
        refine z_top (cdR a b (d - 1).toNat) (by rw [cdR_s a b (by omega)]; split <;> first | rfl | (exfalso; omega)) ?_
        refine lv_istore_n (lv' := [(2, .int (zI (cdR a b (d - 1).toNat))), (0, .int (zI (a))), (1, .int (zI (b))), (3, .int (zI (d)))]) hx hb dX5_common_27 rfl hl (by decide) rfl (fun ls hl => ?_)
        refine lv_iinc (v := zI (d + (1))) (lv' := [(3, .int (zI (d + (1)))), (2, .int (zI (cdR a b (d - 1).toNat))), (0, .int (zI (a))), (1, .int (zI (b)))]) hx hb dX5_common_28 hl (k := 3) rfl (zI_add _ _) (by decide) rfl (fun ls hl => ?_)
        refine z_goto (tgt := 4) hx hb dX5_common_31 (by decide) ?_
        rw [show d - 1 = d + 1 - 2 by omega] at hl
        exact ih4 (d + 1, ls) ⟨by refine ⟨?_, ?_⟩ <;> omega, lv_sub hl [2, 3, 1, 0] rfl⟩ (by omega)
      · skip
        refine lv_iload_n hx hb dX5_common_22 rfl (lv_at hl 3 rfl) ?_
        refine z_goto (tgt := 27) hx hb dX5_common_23 (by decide) ?_
        refine z_top (cdR a b (d - 1).toNat) (by rw [cdR_s a b (by omega)]; split <;> first | rfl | (exfalso; omega)) ?_
        refine lv_istore_n (lv' := [(2, .int (zI (cdR a b (d - 1).toNat))), (0, .int (zI (a))), (1, .int (zI (b))), (3, .int (zI (d)))]) hx hb dX5_common_27 rfl hl (by decide) rfl (fun ls hl => ?_)
        refine lv_iinc (v := zI (d + (1))) (lv' := [(3, .int (zI (d + (1)))), (2, .int (zI (cdR a b (d - 1).toNat))), (0, .int (zI (a))), (1, .int (zI (b)))]) hx hb dX5_common_28 hl (k := 3) rfl (zI_add _ _) (by decide) rfl (fun ls hl => ?_)
        refine z_goto (tgt := 4) hx hb dX5_common_31 (by decide) ?_
        rw [show d - 1 = d + 1 - 2 by omega] at hl
        exact ih4 (d + 1, ls) ⟨by refine ⟨?_, ?_⟩ <;> omega, lv_sub hl [2, 3, 1, 0] rfl⟩ (by omega)

set_option maxHeartbeats 4000000 in
set_option maxRecDepth 100000 in
theorem c_X5_shiftOf (l : Launch) (G : zG) (a b dn : Int) (ha : -12 ≤ a ∧ a ≤ 12) (hb1 : -12 ≤ b ∧ b ≤ 12) (hdn : 0 ≤ dn ∧ dn ≤ 300) : zRd l yX5_shiftOf cX5_shiftOf 5 (some .int) { frames := 0, cells := 0, slots := 0, locals := 0 } G [.int (zI (a)), .int (zI (b)), .int (zI (dn))] ([]) (fiR a b dn 25) := by
  refine Met.ofW (cc := cX5_shiftOf) (maxL := 5) (ret := (some .int)) (by decide) rfl ?_
  intro p e s m args below meth c s₁ B hml hv
  obtain ⟨rfl, hP, hK⟩ := hv
  have hx := B.exec
  have hb := B.bytes
  have hr := B.returns
  have hT : ∀ w ∈ TB, w.before _ s = true := fun w h => atoms_spec (ws := Cond.code yX5_shiftOf cX5_shiftOf 5 (some .int) :: TB) B.pre w (List.mem_cons_of_mem _ h)
  have hown : s.vm.findClass RX5 = some m.cls := findClass_of_methodNamed B.named
  have hlocks := B.notSynchronized
  have hl := lv_entry ([.int (zI (a)), .int (zI (b)), .int (zI (dn))]) (n := 5) (Nat.le_of_ble_eq_true rfl)
  rw [lg_entry_eq]
  generalize (lg_sl ([.int (zI (a)), .int (zI (b)), .int (zI (dn))]) ++ List.replicate (5 - (lg_sl ([.int (zI (a)), .int (zI (b)), .int (zI (dn))])).length) Slot.unset).toArray = ls at hl ⊢
  have hl : lv_has ls 5 [(0, .int (zI (a))), (1, .int (zI (b))), (2, .int (zI (dn)))] := hl
  refine z_bipush hx hb dX5_shiftOf_0 (by decide +kernel) ?_
  refine lv_istore_n (lv' := [(3, .int (zI ((-12)))), (0, .int (zI (a))), (1, .int (zI (b))), (2, .int (zI (dn)))]) hx hb dX5_shiftOf_2 rfl hl (by decide) rfl (fun ls hl => ?_)
  refine z_loop (σ := Int × Array Slot) (fun zq => F0 m 3 (zq.2) []) (fun zq => ((-12 ≤ zq.1 ∧ zq.1 ≤ 13) ∧ fiR a b dn 25 = fiR a b dn (13 - zq.1).toNat) ∧ lv_has (zq.2) 5 [(0, .int (zI (a))), (1, .int (zI (b))), (2, .int (zI (dn))), (3, .int (zI (zq.1)))]) (fun zq => (13 - zq.1).toNat) ?_ ((-12), ls) ⟨⟨by dsimp only; omega, rfl⟩, lv_sub hl [1, 2, 3, 0] rfl⟩
  intro zq hq ih
  obtain ⟨i, ls⟩ := zq
  obtain ⟨⟨hI, hI2⟩, hl⟩ := hq
  try dsimp only at hI hI2 hl ih ⊢
  have ih3 := ih
  refine lv_iload_n hx hb dX5_shiftOf_3 rfl (lv_at hl 3 rfl) ?_
  refine z_bipush hx hb dX5_shiftOf_4 (by decide +kernel) ?_
  refine z_icmp_gt (tgt := 53) hx hb dX5_shiftOf_6 (by decide) (by omega) (by omega) (fun h6 => ?_) (fun h6 => ?_)
  · skip
    refine z_iconst hx hb dX5_shiftOf_53 ?_
    exact z_iret hx hb hr hlocks (by rw [hI2, show (13 - i).toNat = 0 by omega]; rfl) dX5_shiftOf_54
  · skip
    refine z_bipush hx hb dX5_shiftOf_9 (by decide +kernel) ?_
    refine lv_istore (lv' := [(4, .int (zI ((-12)))), (0, .int (zI (a))), (1, .int (zI (b))), (2, .int (zI (dn))), (3, .int (zI (i)))]) hx hb dX5_shiftOf_11 hl (by decide) rfl (fun ls hl => ?_)
    refine z_loop (σ := Int × Array Slot) (fun zq => F0 m 13 (zq.2) []) (fun zq => ((-12 ≤ zq.1 ∧ zq.1 ≤ 13) ∧ fiR a b dn 25 = oor (fjR a b dn i (13 - zq.1).toNat) (fiR a b dn (12 - i).toNat)) ∧ lv_has (zq.2) 5 [(0, .int (zI (a))), (1, .int (zI (b))), (2, .int (zI (dn))), (3, .int (zI (i))), (4, .int (zI (zq.1)))]) (fun zq => (13 - zq.1).toNat) ?_ ((-12), ls) ⟨⟨by dsimp only; omega, by dsimp only; rw [hI2, fiR_s a b dn (by omega)]; rfl⟩, lv_sub hl [1, 2, 3, 4, 0] rfl⟩
    intro zq hq ih
    obtain ⟨j, ls⟩ := zq
    obtain ⟨⟨hJ, hJ2⟩, hl⟩ := hq
    try dsimp only at hJ hJ2 hl ih ⊢
    have ih13 := ih
    refine lv_iload hx hb dX5_shiftOf_13 (lv_at hl 4 rfl) ?_
    refine z_bipush hx hb dX5_shiftOf_15 (by decide +kernel) ?_
    refine z_icmp_gt (tgt := 47) hx hb dX5_shiftOf_17 (by decide) (by omega) (by omega) (fun h17 => ?_) (fun h17 => ?_)
    · skip
      refine lv_iinc (v := zI (i + (1))) (lv' := [(3, .int (zI (i + (1)))), (0, .int (zI (a))), (1, .int (zI (b))), (2, .int (zI (dn))), (4, .int (zI (j)))]) hx hb dX5_shiftOf_47 hl (k := 3) rfl (zI_add _ _) (by decide) rfl (fun ls hl => ?_)
      refine z_goto (tgt := 3) hx hb dX5_shiftOf_50 (by decide) ?_
      exact ih3 (i + 1, ls) ⟨⟨by dsimp only; omega, by dsimp only; rw [hJ2, show (13 - j).toNat = 0 by omega, show 13 - (i + 1) = 12 - i by omega]; rfl⟩, lv_sub hl [1, 2, 3, 0] rfl⟩ (by omega)
    · skip
      have m1 := mul_bs (a := b) (b := i) (A := 12) (B := 12) (by omega) (by omega)
      have m2 := mul_bs (a := a) (b := j) (A := 12) (B := 12) (by omega) (by omega)
      have m3 := mul_bs (a := a) (b := i) (A := 12) (B := 12) (by omega) (by omega)
      have m4 := mul_bs (a := b) (b := j) (A := 12) (B := 12) (by omega) (by omega)
      refine lv_iload_n hx hb dX5_shiftOf_20 rfl (lv_at hl 3 rfl) ?_
      refine lv_iload_n hx hb dX5_shiftOf_21 rfl (lv_at hl 1 rfl) ?_
      refine z_imul hx hb dX5_shiftOf_22 ?_
      refine lv_iload hx hb dX5_shiftOf_23 (lv_at hl 4 rfl) ?_
      refine lv_iload_n hx hb dX5_shiftOf_25 rfl (lv_at hl 0 rfl) ?_
      refine z_imul hx hb dX5_shiftOf_26 ?_
      refine z_iadd hx hb dX5_shiftOf_27 ?_
      refine z_top ((b * i + a * j)) (by rw [Int.mul_comm i b, Int.mul_comm j a]) ?_
      refine lv_iload_n hx hb dX5_shiftOf_28 rfl (lv_at hl 2 rfl) ?_
      refine z_icmp_ne (tgt := 41) hx hb dX5_shiftOf_29 (by decide) (by omega) (by omega) (fun h29 => ?_) (fun h29 => ?_)
      · skip
        refine lv_iinc (v := zI (j + (1))) (lv' := [(4, .int (zI (j + (1)))), (0, .int (zI (a))), (1, .int (zI (b))), (2, .int (zI (dn))), (3, .int (zI (i)))]) hx hb dX5_shiftOf_41 hl (k := 4) rfl (zI_add _ _) (by decide) rfl (fun ls hl => ?_)
        refine z_goto (tgt := 13) hx hb dX5_shiftOf_44 (by decide) ?_
        exact ih13 (j + 1, ls) ⟨⟨by dsimp only; omega, by dsimp only; rw [hJ2, fjR_s a b dn i (by omega), if_neg h29, show 13 - (j + 1) = 12 - j by omega]⟩, lv_sub hl [1, 2, 3, 4, 0] rfl⟩ (by omega)
      · skip
        refine lv_iload_n hx hb dX5_shiftOf_32 rfl (lv_at hl 3 rfl) ?_
        refine lv_iload_n hx hb dX5_shiftOf_33 rfl (lv_at hl 0 rfl) ?_
        refine z_imul hx hb dX5_shiftOf_34 ?_
        refine lv_iload hx hb dX5_shiftOf_35 (lv_at hl 4 rfl) ?_
        refine lv_iload_n hx hb dX5_shiftOf_37 rfl (lv_at hl 1 rfl) ?_
        refine z_imul hx hb dX5_shiftOf_38 ?_
        refine z_isub hx hb dX5_shiftOf_39 ?_
        refine z_top ((a * i - b * j)) (by rw [Int.mul_comm i a, Int.mul_comm j b]) ?_
        exact z_iret hx hb hr hlocks (by rw [hJ2, fjR_s a b dn i (by omega), if_pos h29]; rfl) dX5_shiftOf_40

set_option maxHeartbeats 4000000 in
set_option maxRecDepth 100000 in
theorem c_X5_begins (l : Launch) (G : zG) (md ma mb mc mt m1 m2 m3 m4 m5 m6 m7 : Nat) (th w h cnt most rch tl nc : Int) (M Y C T CA CB CN CG CS Z K : Int → Int) (x y k : Int) (hm : mdOK w h cnt most rch tl nc M Y C T CN CG CS K) (hxx : 0 ≤ x ∧ x < w) (hyy : 0 ≤ y ∧ y < h) (hk : 0 ≤ k ∧ k < 8) : zRd l yX5_begins cX5_begins 4 (some .boolean) { frames := 1, cells := 0, slots := 0, locals := 23 } G [.ref md, .int (zI (x)), .int (zI (y)), .int (zI (k))] (mdL G md ma mb mc mt m1 m2 m3 m4 m5 m6 m7 th w h cnt most rch tl nc M Y C T CA CB CN CG CS Z K) (bI (stR (PPf Y w (w * h)) (w * h) w k (x + w * y))) := by
  refine Met.ofW (cc := cX5_begins) (maxL := 4) (ret := (some .boolean)) (by decide) rfl ?_
  intro p e s m args below meth c s₁ B hml hv
  obtain ⟨rfl, hP, hK⟩ := hv
  have hx := B.exec
  have hb := B.bytes
  have hr := B.returns
  have hT : ∀ w ∈ TB, w.before _ s = true := fun w h => atoms_spec (ws := Cond.code yX5_begins cX5_begins 4 (some .boolean) :: TB) B.pre w (List.mem_cons_of_mem _ h)
  have hown : s.vm.findClass RX5 = some m.cls := findClass_of_methodNamed B.named
  have hlocks := B.notSynchronized
  have hl := lv_entry ([.ref md, .int (zI (x)), .int (zI (y)), .int (zI (k))]) (n := 4) (Nat.le_of_ble_eq_true rfl)
  rw [lg_entry_eq]
  generalize (lg_sl ([.ref md, .int (zI (x)), .int (zI (y)), .int (zI (k))]) ++ List.replicate (4 - (lg_sl ([.ref md, .int (zI (x)), .int (zI (y)), .int (zI (k))])).length) Slot.unset).toArray = ls at hl ⊢
  have hl : lv_has ls 4 [(0, .ref md), (1, .int (zI (x))), (2, .int (zI (y))), (3, .int (zI (k)))] := hl
  obtain ⟨hw, hh, hcnt, hmost, hrch, hM, hY, hC, hTb, hT0, hT5, htl, hnc, hcl, hKb⟩ := id hm
  have hpt := md_pts hm
  have hPb : ∀ j, 0 ≤ PPf Y w (w * h) j ∧ PPf Y w (w * h) j ≤ 255 := fun j => hY _
  have hxm := (qr (a := y) (b := w) (r := x) (by omega) hxx).1
  have hb1 := hPb (k * (w * h) + (x + w * y))
  have hb2 := hPb (k * (w * h) + (x + w * y - 1))
  refine lv_iload_n hx hb dX5_begins_0 rfl (lv_at hl 1 rfl) ?_
  refine z_if_eq (tgt := 23) hx hb dX5_begins_1 (by decide) (by omega) (fun h1 => ?_) (fun h1 => ?_)
  · skip
    refine z_iconst hx hb dX5_begins_23 ?_
    refine z_goto (tgt := 28) hx hb dX5_begins_24 (by decide) ?_
    exact z_zret hx hb hr hlocks (by first | exact Or.inl rfl | exact Or.inr rfl) (by refine bI_cases (fun h9 => ?_) (fun h9 => ?_) <;> first | rfl | (exfalso; simp only [stR, Bool.and_eq_true, Bool.and_eq_false_iff, Bool.or_eq_true, Bool.or_eq_false_iff, decide_eq_true_eq, decide_eq_false_iff_not] at h9; omega)) dX5_begins_28
  · skip
    refine lv_aload_n hx hb dX5_begins_4 rfl (lv_at hl 0 rfl) ?_
    refine lv_iload_n hx hb dX5_begins_5 rfl (lv_at hl 1 rfl) ?_
    refine lv_iload_n hx hb dX5_begins_6 rfl (lv_at hl 2 rfl) ?_
    refine lv_iload_n hx hb dX5_begins_7 rfl (lv_at hl 3 rfl) ?_
    refine z_callV (q0 := 0) (G := G) (As := [.int (zI (x)), .int (zI (y)), .int (zI (k))]) (rest := []) hx hb hml hown hT hK (c_X5_byteAt l G md ma mb mc mt m1 m2 m3 m4 m5 m6 m7 th w h cnt most rch tl nc M Y C T CA CB CN CG CS Z K (x) (y) (k) hm (by omega) (by omega) (by omega)) kc_X5_87 ⟨Nat.le_of_ble_eq_true rfl, Nat.le_of_ble_eq_true rfl⟩ ⟨rfl, rfl⟩ ⟨Nat.zero_le _, Nat.zero_le _⟩ hP rfl rfl rfl rfl hl.1 rfl (Nat.le_of_ble_eq_true rfl) dX5_begins_8 ?_
    refine lv_aload_n hx hb dX5_begins_11 rfl (lv_at hl 0 rfl) ?_
    refine lv_iload_n hx hb dX5_begins_12 rfl (lv_at hl 1 rfl) ?_
    refine z_iconst hx hb dX5_begins_13 ?_
    refine z_isub hx hb dX5_begins_14 ?_
    refine lv_iload_n hx hb dX5_begins_15 rfl (lv_at hl 2 rfl) ?_
    refine lv_iload_n hx hb dX5_begins_16 rfl (lv_at hl 3 rfl) ?_
    refine z_callV (q0 := 0) (G := G) (As := [.int (zI ((x - 1))), .int (zI (y)), .int (zI (k))]) (rest := [.int (zI (((PPf Y w (w * h)) (k * (w * h) + (x + w * y)))))]) hx hb hml hown hT hK (c_X5_byteAt l G md ma mb mc mt m1 m2 m3 m4 m5 m6 m7 th w h cnt most rch tl nc M Y C T CA CB CN CG CS Z K ((x - 1)) (y) (k) hm (by omega) (by omega) (by omega)) kc_X5_87 ⟨Nat.le_of_ble_eq_true rfl, Nat.le_of_ble_eq_true rfl⟩ ⟨rfl, rfl⟩ ⟨Nat.zero_le _, Nat.zero_le _⟩ hP rfl rfl rfl rfl hl.1 rfl (Nat.le_of_ble_eq_true rfl) dX5_begins_17 ?_
    refine z_top (((PPf Y w (w * h)) (k * (w * h) + (x + w * y - 1)))) (by rw [show x - 1 + w * y = x + w * y - 1 by omega]) ?_
    refine z_icmp_eq (tgt := 27) hx hb dX5_begins_20 (by decide) (by omega) (by omega) (fun h20 => ?_) (fun h20 => ?_)
    · skip
      refine z_iconst hx hb dX5_begins_27 ?_
      exact z_zret hx hb hr hlocks (by first | exact Or.inl rfl | exact Or.inr rfl) (by refine bI_cases (fun h9 => ?_) (fun h9 => ?_) <;> first | rfl | (exfalso; simp only [stR, Bool.and_eq_true, Bool.and_eq_false_iff, Bool.or_eq_true, Bool.or_eq_false_iff, decide_eq_true_eq, decide_eq_false_iff_not] at h9; omega)) dX5_begins_28
    · skip
      refine z_iconst hx hb dX5_begins_23 ?_
      refine z_goto (tgt := 28) hx hb dX5_begins_24 (by decide) ?_
      exact z_zret hx hb hr hlocks (by first | exact Or.inl rfl | exact Or.inr rfl) (by refine bI_cases (fun h9 => ?_) (fun h9 => ?_) <;> first | rfl | (exfalso; simp only [stR, Bool.and_eq_true, Bool.and_eq_false_iff, Bool.or_eq_true, Bool.or_eq_false_iff, decide_eq_true_eq, decide_eq_false_iff_not] at h9; omega)) dX5_begins_28

set_option maxHeartbeats 4000000 in
set_option maxRecDepth 100000 in
theorem c_X5_runsOf (l : Launch) (G : zG) (md ma mb mc mt m1 m2 m3 m4 m5 m6 m7 : Nat) (th w h cnt most rch tl nc : Int) (M Y C T CA CB CN CG CS Z K : Int → Int) (k : Int) (hm : mdOK w h cnt most rch tl nc M Y C T CN CG CS K) (hk : 0 ≤ k ∧ k < 8) : zRd l yX5_runsOf cX5_runsOf 5 (some .int) { frames := 2, cells := 0, slots := 0, locals := 46 } G [.ref md, .int (zI (k))] (mdL G md ma mb mc mt m1 m2 m3 m4 m5 m6 m7 th w h cnt most rch tl nc M Y C T CA CB CN CG CS Z K) (cntB (stR (PPf Y w (w * h)) (w * h) w k) (w * h).toNat) := by
  refine Met.ofW (cc := cX5_runsOf) (maxL := 5) (ret := (some .int)) (by decide) rfl ?_
  intro p e s m args below meth c s₁ B hml hv
  obtain ⟨rfl, hP, hK⟩ := hv
  have hx := B.exec
  have hb := B.bytes
  have hr := B.returns
  have hT : ∀ w ∈ TB, w.before _ s = true := fun w h => atoms_spec (ws := Cond.code yX5_runsOf cX5_runsOf 5 (some .int) :: TB) B.pre w (List.mem_cons_of_mem _ h)
  have hown : s.vm.findClass RX5 = some m.cls := findClass_of_methodNamed B.named
  have hlocks := B.notSynchronized
  have hl := lv_entry ([.ref md, .int (zI (k))]) (n := 5) (Nat.le_of_ble_eq_true rfl)
  rw [lg_entry_eq]
  generalize (lg_sl ([.ref md, .int (zI (k))]) ++ List.replicate (5 - (lg_sl ([.ref md, .int (zI (k))])).length) Slot.unset).toArray = ls at hl ⊢
  have hl : lv_has ls 5 [(0, .ref md), (1, .int (zI (k)))] := hl
  obtain ⟨hw, hh, hcnt, hmost, hrch, hM, hY, hC, hTb, hT0, hT5, htl, hnc, hcl, hKb⟩ := id hm
  have hpt := md_pts hm
  have hPb : ∀ j, 0 ≤ PPf Y w (w * h) j ∧ PPf Y w (w * h) j ≤ 255 := fun j => hY _
  refine z_iconst hx hb dX5_runsOf_0 ?_
  refine z_top (cntB (stR (PPf Y w (w * h)) (w * h) w k) (w * 0).toNat) (by rw [Int.mul_zero]; rfl) ?_
  refine lv_istore_n (lv' := [(2, .int (zI (cntB (stR (PPf Y w (w * h)) (w * h) w k) (w * 0).toNat))), (0, .ref md), (1, .int (zI (k)))]) hx hb dX5_runsOf_1 rfl hl (by decide) rfl (fun ls hl => ?_)
  refine z_iconst hx hb dX5_runsOf_2 ?_
  refine lv_istore_n (lv' := [(3, .int (zI (0))), (2, .int (zI (cntB (stR (PPf Y w (w * h)) (w * h) w k) (w * 0).toNat))), (0, .ref md), (1, .int (zI (k)))]) hx hb dX5_runsOf_3 rfl hl (by decide) rfl (fun ls hl => ?_)
  refine z_loop (σ := Int × Array Slot) (fun zq => F0 m 4 (zq.2) []) (fun zq => (0 ≤ zq.1 ∧ zq.1 ≤ h) ∧ lv_has (zq.2) 5 [(0, .ref md), (1, .int (zI (k))), (2, .int (zI (cntB (stR (PPf Y w (w * h)) (w * h) w k) (w * zq.1).toNat))), (3, .int (zI (zq.1)))]) (fun zq => (h - zq.1).toNat) ?_ (0, ls) ⟨by refine ⟨?_, ?_⟩ <;> omega, lv_sub hl [2, 3, 1, 0] rfl⟩
  intro zq hq ih
  obtain ⟨y, ls⟩ := zq
  obtain ⟨hI, hl⟩ := hq
  try dsimp only at hI hl ih ⊢
  have ih4 := ih
  refine lv_iload_n hx hb dX5_runsOf_4 rfl (lv_at hl 3 rfl) ?_
  refine lv_aload_n hx hb dX5_runsOf_5 rfl (lv_at hl 0 rfl) ?_
  refine gf_X5_59 hx hb hT hown hK hP 0 rfl rfl dX5_runsOf_6 ?_
  refine z_icmp_ge (tgt := 55) hx hb dX5_runsOf_9 (by decide) (by omega) (by omega) (fun h9 => ?_) (fun h9 => ?_)
  · skip
    refine lv_iload_n hx hb dX5_runsOf_55 rfl (lv_at hl 2 rfl) ?_
    exact z_iret hx hb hr hlocks (by have hkc : y = h := (by omega); rw [hkc]) dX5_runsOf_56
  · skip
    refine z_iconst hx hb dX5_runsOf_12 ?_
    refine lv_istore (lv' := [(4, .int (zI (0))), (0, .ref md), (1, .int (zI (k))), (2, .int (zI (cntB (stR (PPf Y w (w * h)) (w * h) w k) (w * y).toNat))), (3, .int (zI (y)))]) hx hb dX5_runsOf_13 hl (by decide) rfl (fun ls hl => ?_)
    rw [show w * y = 0 + w * y by omega] at hl
    refine z_loop (σ := Int × Array Slot) (fun zq => F0 m 15 (zq.2) []) (fun zq => (0 ≤ zq.1 ∧ zq.1 ≤ w) ∧ lv_has (zq.2) 5 [(0, .ref md), (1, .int (zI (k))), (2, .int (zI (cntB (stR (PPf Y w (w * h)) (w * h) w k) (zq.1 + w * y).toNat))), (3, .int (zI (y))), (4, .int (zI (zq.1)))]) (fun zq => (w - zq.1).toNat) ?_ (0, ls) ⟨by refine ⟨?_, ?_⟩ <;> omega, lv_sub hl [1, 2, 3, 4, 0] rfl⟩
    intro zq hq ih
    obtain ⟨x, ls⟩ := zq
    obtain ⟨hI1, hl⟩ := hq
    try dsimp only at hI1 hl ih ⊢
    have ih15 := ih
    refine lv_iload hx hb dX5_runsOf_15 (lv_at hl 4 rfl) ?_
    refine lv_aload_n hx hb dX5_runsOf_17 rfl (lv_at hl 0 rfl) ?_
    refine gf_X5_56 hx hb hT hown hK hP 0 rfl rfl dX5_runsOf_18 ?_
    refine z_icmp_ge (tgt := 49) hx hb dX5_runsOf_21 (by decide) (by omega) (by omega) (fun h21 => ?_) (fun h21 => ?_)
    · skip
      refine lv_iinc (v := zI (y + (1))) (lv' := [(3, .int (zI (y + (1)))), (0, .ref md), (1, .int (zI (k))), (2, .int (zI (cntB (stR (PPf Y w (w * h)) (w * h) w k) (x + w * y).toNat))), (4, .int (zI (x)))]) hx hb dX5_runsOf_49 hl (k := 3) rfl (zI_add _ _) (by decide) rfl (fun ls hl => ?_)
      refine z_goto (tgt := 4) hx hb dX5_runsOf_52 (by decide) ?_
      have hmu := Int.mul_add w y 1
      rw [show x + w * y = w * (y + 1) by omega] at hl
      exact ih4 (y + 1, ls) ⟨by refine ⟨?_, ?_⟩ <;> omega, lv_sub hl [1, 2, 3, 0] rfl⟩ (by omega)
    · skip
      have hpc := pt_b (w := w) (h := h) (x := x) (y := y) (by omega) (by omega)
      have hc9 := cntB_b (stR (PPf Y w (w * h)) (w * h) w k) (x + w * y).toNat
      have hs9 := bI_01 (stR (PPf Y w (w * h)) (w * h) w k (x + w * y))
      have hcs := cntB_s (stR (PPf Y w (w * h)) (w * h) w k) (k := x + w * y) (by omega)
      refine lv_iload_n hx hb dX5_runsOf_24 rfl (lv_at hl 2 rfl) ?_
      refine lv_aload_n hx hb dX5_runsOf_25 rfl (lv_at hl 0 rfl) ?_
      refine lv_iload hx hb dX5_runsOf_26 (lv_at hl 4 rfl) ?_
      refine lv_iload_n hx hb dX5_runsOf_28 rfl (lv_at hl 3 rfl) ?_
      refine lv_iload_n hx hb dX5_runsOf_29 rfl (lv_at hl 1 rfl) ?_
      refine z_callV (q0 := 0) (G := G) (As := [.int (zI (x)), .int (zI (y)), .int (zI (k))]) (rest := [.int (zI (cntB (stR (PPf Y w (w * h)) (w * h) w k) (x + w * y).toNat))]) hx hb hml hown hT hK (c_X5_begins l G md ma mb mc mt m1 m2 m3 m4 m5 m6 m7 th w h cnt most rch tl nc M Y C T CA CB CN CG CS Z K (x) (y) (k) hm (by omega) (by omega) (by omega)) kc_X5_142 ⟨Nat.le_of_ble_eq_true rfl, Nat.le_of_ble_eq_true rfl⟩ ⟨rfl, rfl⟩ ⟨Nat.zero_le _, Nat.zero_le _⟩ hP rfl rfl rfl rfl hl.1 rfl (Nat.le_of_ble_eq_true rfl) dX5_runsOf_30 ?_
      refine z_if_eq (tgt := 40) hx hb dX5_runsOf_33 (by decide) (by omega) (fun h33 => ?_) (fun h33 => ?_)
      · skip
        refine z_iconst hx hb dX5_runsOf_40 ?_
        refine z_iadd hx hb dX5_runsOf_41 ?_
        refine z_top (cntB (stR (PPf Y w (w * h)) (w * h) w k) (x + w * y + 1).toNat) (by omega) ?_
        refine lv_istore_n (lv' := [(2, .int (zI (cntB (stR (PPf Y w (w * h)) (w * h) w k) (x + w * y + 1).toNat))), (0, .ref md), (1, .int (zI (k))), (3, .int (zI (y))), (4, .int (zI (x)))]) hx hb dX5_runsOf_42 rfl hl (by decide) rfl (fun ls hl => ?_)
        refine lv_iinc (v := zI (x + (1))) (lv' := [(4, .int (zI (x + (1)))), (2, .int (zI (cntB (stR (PPf Y w (w * h)) (w * h) w k) (x + w * y + 1).toNat))), (0, .ref md), (1, .int (zI (k))), (3, .int (zI (y)))]) hx hb dX5_runsOf_43 hl (k := 4) rfl (zI_add _ _) (by decide) rfl (fun ls hl => ?_)
        refine z_goto (tgt := 15) hx hb dX5_runsOf_46 (by decide) ?_
        rw [show x + w * y + 1 = x + 1 + w * y by omega] at hl
        exact ih15 (x + 1, ls) ⟨by refine ⟨?_, ?_⟩ <;> omega, lv_sub hl [2, 3, 1, 4, 0] rfl⟩ (by omega)
      · skip
        refine z_iconst hx hb dX5_runsOf_36 ?_
        refine z_goto (tgt := 41) hx hb dX5_runsOf_37 (by decide) ?_
        refine z_iadd hx hb dX5_runsOf_41 ?_
        refine z_top (cntB (stR (PPf Y w (w * h)) (w * h) w k) (x + w * y + 1).toNat) (by omega) ?_
        refine lv_istore_n (lv' := [(2, .int (zI (cntB (stR (PPf Y w (w * h)) (w * h) w k) (x + w * y + 1).toNat))), (0, .ref md), (1, .int (zI (k))), (3, .int (zI (y))), (4, .int (zI (x)))]) hx hb dX5_runsOf_42 rfl hl (by decide) rfl (fun ls hl => ?_)
        refine lv_iinc (v := zI (x + (1))) (lv' := [(4, .int (zI (x + (1)))), (2, .int (zI (cntB (stR (PPf Y w (w * h)) (w * h) w k) (x + w * y + 1).toNat))), (0, .ref md), (1, .int (zI (k))), (3, .int (zI (y)))]) hx hb dX5_runsOf_43 hl (k := 4) rfl (zI_add _ _) (by decide) rfl (fun ls hl => ?_)
        refine z_goto (tgt := 15) hx hb dX5_runsOf_46 (by decide) ?_
        rw [show x + w * y + 1 = x + 1 + w * y by omega] at hl
        exact ih15 (x + 1, ls) ⟨by refine ⟨?_, ?_⟩ <;> omega, lv_sub hl [2, 3, 1, 4, 0] rfl⟩ (by omega)

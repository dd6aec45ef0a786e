/-! ===== Page and Inks: their cells, what holds of them, what they read ===== -/
abbrev pgL (G : zG) (pg ik mx co pa : Nat) (w h pts cnt most rch : Int) (M C P : Int → Int) : va_W := [(pg, .inr (4, [.int (zI w), .int (zI h), .int (zI pts), .ref ik, .ref pa, .int (zI most), .int (zI rch)])), (ik, .inr (3, [.ref mx, .ref co, .int (zI cnt)])), ia G pa (8 * pts).toNat P, ia G mx 32 M, ia G co 8 C]
def pgOK (w h pts cnt most rch : Int) (M C P : Int → Int) : Prop := (1 ≤ w ∧ w ≤ 16) ∧ (1 ≤ h ∧ h ≤ 12) ∧ pts = w * h ∧ (4 ≤ cnt ∧ cnt ≤ 8) ∧ (0 ≤ most ∧ most ≤ 2040) ∧ (0 ≤ rch ∧ rch ≤ 3) ∧ (∀ j, 0 ≤ M j ∧ M j ≤ 255) ∧ (∀ j, -1 ≤ C j ∧ C j ≤ 255) ∧ (∀ j, 0 ≤ P j ∧ P j ≤ 255)
theorem mul_b {a b A B : Int} (ha : 0 ≤ a ∧ a ≤ A) (hb : 0 ≤ b ∧ b ≤ B) : 0 ≤ a * b ∧ a * b ≤ A * B :=
  ⟨Int.mul_nonneg ha.1 hb.1, Int.mul_le_mul ha.2 hb.2 hb.1 (by omega)⟩
theorem pgOK_pts {w h pts cnt most rch : Int} {M C P : Int → Int} (hp : pgOK w h pts cnt most rch M C P) : 1 ≤ pts ∧ pts ≤ 192 := by
  obtain ⟨hw, hh, rfl, -⟩ := hp
  have h1 := mul_b (a := w - 1) (b := h) (A := 15) (B := 12) (by omega) (by omega)
  have h2 : (w - 1) * h = w * h - h := by rw [Int.sub_mul, Int.one_mul]
  omega
theorem pg_ix {pts k q : Int} (hpt : 1 ≤ pts ∧ pts ≤ 192) (hk : 0 ≤ k ∧ k < 8) (hq : 0 ≤ q ∧ q < pts) : 0 ≤ k * pts + q ∧ k * pts + q < 8 * pts := by
  have h1 := mul_b (a := k) (b := pts) (A := 7) (B := pts) (by omega) (by omega)
  omega
def zsum (f : Int → Int) : Nat → Int
  | 0 => 0
  | n + 1 => zsum f n + f (n : Int)
theorem zsum_b {f : Int → Int} {B : Int} (hf : ∀ j, 0 ≤ f j ∧ f j ≤ B) : ∀ n : Nat, 0 ≤ zsum f n ∧ zsum f n ≤ B * n := by
  intro n
  induction n with
  | zero => simp [zsum]
  | succ n ih =>
    have h := hf (n : Int)
    have h2 : B * ((n + 1 : Nat) : Int) = B * (n : Int) + B := by rw [Int.natCast_add, Int.mul_add]; simp
    rw [h2]
    show 0 ≤ zsum f n + f (n : Int) ∧ zsum f n + f (n : Int) ≤ _
    omega
theorem toNat_s {k : Int} (h : 0 ≤ k) : (k + 1).toNat = k.toNat + 1 := by omega
theorem toNat_c {k : Int} (h : 0 ≤ k) : ((k.toNat : Nat) : Int) = k := Int.toNat_of_nonneg h
theorem zsum_s (f : Int → Int) {k : Int} (h : 0 ≤ k) : zsum f (k + 1).toNat = zsum f k.toNat + f k := by
  rw [toNat_s h]; show zsum f k.toNat + f ((k.toNat : Nat) : Int) = _; rw [toNat_c h]
def pW (P : Int → Int) (pts k p q : Int) : Int := if q < 0 then P (k * pts + p) else max (P (k * pts + p)) (P (k * pts + q))
theorem pW_b {P : Int → Int} (hB : ∀ j, 0 ≤ P j ∧ P j ≤ 255) (pts k p q : Int) : 0 ≤ pW P pts k p q ∧ pW P pts k p q ≤ 255 := by
  have h1 := hB (k * pts + p); have h2 := hB (k * pts + q)
  unfold pW; split <;> omega
def stg (M : Int → Int) (k b : Int) : Int := min 255 (M (k * 4 + b) + M (k * 4 + 3))
theorem stg_b {M : Int → Int} (hM : ∀ j, 0 ≤ M j ∧ M j ≤ 255) (k b : Int) : 0 ≤ stg M k b ∧ stg M k b ≤ 255 := by
  have h1 := hM (k * 4 + b); have h2 := hM (k * 4 + 3)
  unfold stg; omega
/-- what is seen: f k the byte of ink k, g k its strength -/
def bnd (f g : Int → Int) : Nat → Int
  | 0 => 255
  | n + 1 => (bnd f g n * (65025 - f (n : Int) * g (n : Int)) + 32512) / 65025
theorem bnd_s (f g : Int → Int) {k : Int} (h : 0 ≤ k) : bnd f g (k + 1).toNat = (bnd f g k.toNat * (65025 - f k * g k) + 32512) / 65025 := by
  rw [toNat_s h]; show (bnd f g k.toNat * (65025 - f ((k.toNat : Nat) : Int) * g ((k.toNat : Nat) : Int)) + 32512) / 65025 = _; rw [toNat_c h]
theorem bnd_step {c v m : Int} (hc : 0 ≤ c ∧ c ≤ 255) (hv : 0 ≤ v ∧ v ≤ 255) (hm : 0 ≤ m ∧ m ≤ 255) : 0 ≤ v * m ∧ v * m ≤ 65025 ∧ 0 ≤ c * (65025 - v * m) ∧ c * (65025 - v * m) ≤ 16581375 := by
  have h1 := mul_b hv hm
  have h2 := mul_b hc (b := 65025 - v * m) (B := 65025) (by omega)
  omega
theorem bnd_b {f g : Int → Int} (hf : ∀ j, 0 ≤ f j ∧ f j ≤ 255) (hg : ∀ j, 0 ≤ g j ∧ g j ≤ 255) : ∀ n : Nat, 0 ≤ bnd f g n ∧ bnd f g n ≤ 255 := by
  intro n
  induction n with
  | zero => simp [bnd]
  | succ n ih =>
    have h := bnd_step ih (hf (n : Int)) (hg (n : Int))
    show 0 ≤ (bnd f g n * (65025 - f (n : Int) * g (n : Int)) + 32512) / 65025 ∧ (bnd f g n * (65025 - f (n : Int) * g (n : Int)) + 32512) / 65025 ≤ 255
    omega
def bandV (M P : Int → Int) (pts cnt b p q : Int) : Int := bnd (fun k => pW P pts k p q) (fun k => stg M k b) cnt.toNat
theorem bandV_b {M P : Int → Int} (hM : ∀ j, 0 ≤ M j ∧ M j ≤ 255) (hB : ∀ j, 0 ≤ P j ∧ P j ≤ 255) (pts cnt b p q : Int) : 0 ≤ bandV M P pts cnt b p q ∧ bandV M P pts cnt b p q ≤ 255 := bnd_b (fun j => pW_b hB _ _ _ _) (fun j => stg_b hM _ _) _
def lightV (M P : Int → Int) (pts cnt p : Int) : Int := (30 * bandV M P pts cnt 0 p (-1) + 59 * bandV M P pts cnt 1 p (-1) + 11 * bandV M P pts cnt 2 p (-1)) / 100
def anyB (f : Int → Bool) : Nat → Bool
  | 0 => false
  | n + 1 => anyB f n || f (n : Int)
theorem anyB_s (f : Int → Bool) {k : Int} (h : 0 ≤ k) : anyB f (k + 1).toNat = (anyB f k.toNat || f k) := by
  rw [toNat_s h]; show (anyB f k.toNat || f ((k.toNat : Nat) : Int)) = _; rw [toNat_c h]
theorem anyB_mono (f : Int → Bool) {a b : Nat} (h : a ≤ b) (ha : anyB f a = true) : anyB f b = true := by
  induction b with
  | zero => have : a = 0 := by omega
            rw [this] at ha; exact ha
  | succ n ih =>
    by_cases q : a = n + 1
    · rw [← q]; exact ha
    · show (anyB f n || f (n : Int)) = true
      rw [ih (by omega)]; rfl
def bI (b : Bool) : Int := if b then 1 else 0
theorem bI_01 (b : Bool) : bI b = 0 ∨ bI b = 1 := by cases b <;> simp [bI]
def mk25 (P : Int → Int) (pts p k : Int) : Bool := decide (25 ≤ P (k * pts + p))
def unlB (P : Int → Int) (pts cnt p q : Int) : Bool := !anyB (fun k => mk25 P pts p k && mk25 P pts q k) cnt.toNat && anyB (mk25 P pts p) cnt.toNat && anyB (mk25 P pts q) cnt.toNat

set_option maxHeartbeats 4000000 in
set_option maxRecDepth 100000 in
theorem c_X3_byteAt (l : Launch) (G : zG) (pg ik mx co pa : Nat) (w h pts cnt most rch : Int) (M C P : Int → Int) (k q : Int) (hp : pgOK w h pts cnt most rch M C P) (hk : 0 ≤ k ∧ k < 8) (hq : 0 ≤ q ∧ q < pts) : zRd l yX3_byteAt cX3_byteAt 3 (some .int) { frames := 0, cells := 0, slots := 0, locals := 0 } G [.ref pg, .int (zI (k)), .int (zI (q))] (pgL G pg ik mx co pa w h pts cnt most rch M C P) (P (k * pts + q)) := by
  refine Met.ofW (cc := cX3_byteAt) (maxL := 3) (ret := (some .int)) (by decide) rfl ?_
  intro p e s m args below meth c s₁ B hml hv
  obtain ⟨rfl, hP, hK⟩ := hv
  have hx := B.exec
  have hb := B.bytes
  have hr := B.returns
  have hT : ∀ w ∈ TB, w.before _ s = true := fun w h => atoms_spec (ws := Cond.code yX3_byteAt cX3_byteAt 3 (some .int) :: TB) B.pre w (List.mem_cons_of_mem _ h)
  have hown : s.vm.findClass RX3 = some m.cls := findClass_of_methodNamed B.named
  have hlocks := B.notSynchronized
  have hl := lv_entry ([.ref pg, .int (zI (k)), .int (zI (q))]) (n := 3) (Nat.le_of_ble_eq_true rfl)
  rw [lg_entry_eq]
  generalize (lg_sl ([.ref pg, .int (zI (k)), .int (zI (q))]) ++ List.replicate (3 - (lg_sl ([.ref pg, .int (zI (k)), .int (zI (q))])).length) Slot.unset).toArray = ls at hl ⊢
  have hl : lv_has ls 3 [(0, .ref pg), (1, .int (zI (k))), (2, .int (zI (q)))] := hl
  obtain ⟨hw, hh, hpts, hcnt, hmost, hrch, hM, hC, hB⟩ := id hp
  have hpt := pgOK_pts hp
  have hix := pg_ix hpt hk hq
  refine lv_aload_n hx hb dX3_byteAt_0 rfl (lv_at hl 0 rfl) ?_
  refine gf_X3_34 hx hb hT hown hK hP 0 rfl rfl dX3_byteAt_1 ?_
  refine lv_iload_n hx hb dX3_byteAt_4 rfl (lv_at hl 1 rfl) ?_
  refine lv_aload_n hx hb dX3_byteAt_5 rfl (lv_at hl 0 rfl) ?_
  refine gf_X3_31 hx hb hT hown hK hP 0 rfl rfl dX3_byteAt_6 ?_
  refine z_imul hx hb dX3_byteAt_9 ?_
  refine lv_iload_n hx hb dX3_byteAt_10 rfl (lv_at hl 2 rfl) ?_
  refine z_iadd hx hb dX3_byteAt_11 ?_
  refine z_iald hx hb hK hP 2 rfl (⟨by omega, by omega, by omega⟩) dX3_byteAt_12 ?_
  exact z_iret hx hb hr hlocks (rfl) dX3_byteAt_13

theorem bI_1 {q : Prop} [Decidable q] (h : q) : (1 : Int) = bI (decide q) := by simp [bI, h]
theorem bI_0 {q : Prop} [Decidable q] (h : ¬ q) : (0 : Int) = bI (decide q) := by simp [bI, h]
theorem bI_f {b : Bool} : bI b = 0 ↔ b = false := by cases b <;> simp [bI]
theorem bI_t {b : Bool} : ¬ bI b = 0 ↔ b = true := by cases b <;> simp [bI]
theorem unl_hit {P : Int → Int} {pts cnt one oth k : Int} (hk : 0 ≤ k ∧ k < cnt) (h1 : mk25 P pts one k = true) (h2 : mk25 P pts oth k = true) : unlB P pts cnt one oth = false := by
  have h3 : anyB (fun k => mk25 P pts one k && mk25 P pts oth k) (k + 1).toNat = true := by rw [anyB_s _ hk.1]; simp [h1, h2]
  have h4 := anyB_mono (fun k => mk25 P pts one k && mk25 P pts oth k) (a := (k + 1).toNat) (b := cnt.toNat) (by omega) h3
  unfold unlB; rw [h4]; rfl
set_option maxHeartbeats 4000000 in
set_option maxRecDepth 100000 in
theorem c_X3_byteWith (l : Launch) (G : zG) (pg ik mx co pa : Nat) (w h pts cnt most rch : Int) (M C P : Int → Int) (k q ln : Int) (hp : pgOK w h pts cnt most rch M C P) (hk : 0 ≤ k ∧ k < 8) (hq : 0 ≤ q ∧ q < pts) (hln : -1 ≤ ln ∧ ln < pts) : zRd l yX3_byteWith cX3_byteWith 5 (some .int) { frames := 1, cells := 0, slots := 0, locals := 22 } G [.ref pg, .int (zI (k)), .int (zI (q)), .int (zI (ln))] (pgL G pg ik mx co pa w h pts cnt most rch M C P) (pW P pts k q ln) := by
  refine Met.ofW (cc := cX3_byteWith) (maxL := 5) (ret := (some .int)) (by decide) rfl ?_
  intro p e s m args below meth c s₁ B hml hv
  obtain ⟨rfl, hP, hK⟩ := hv
  have hx := B.exec
  have hb := B.bytes
  have hr := B.returns
  have hT : ∀ w ∈ TB, w.before _ s = true := fun w h => atoms_spec (ws := Cond.code yX3_byteWith cX3_byteWith 5 (some .int) :: TB) B.pre w (List.mem_cons_of_mem _ h)
  have hown : s.vm.findClass RX3 = some m.cls := findClass_of_methodNamed B.named
  have hlocks := B.notSynchronized
  have hl := lv_entry ([.ref pg, .int (zI (k)), .int (zI (q)), .int (zI (ln))]) (n := 5) (Nat.le_of_ble_eq_true rfl)
  rw [lg_entry_eq]
  generalize (lg_sl ([.ref pg, .int (zI (k)), .int (zI (q)), .int (zI (ln))]) ++ List.replicate (5 - (lg_sl ([.ref pg, .int (zI (k)), .int (zI (q)), .int (zI (ln))])).length) Slot.unset).toArray = ls at hl ⊢
  have hl : lv_has ls 5 [(0, .ref pg), (1, .int (zI (k))), (2, .int (zI (q))), (3, .int (zI (ln)))] := hl
  obtain ⟨hw, hh, hpts, hcnt, hmost, hrch, hM, hC, hB⟩ := id hp
  have hpt := pgOK_pts hp
  have hb1 := hB (k * pts + q)
  have hb2 := hB (k * pts + ln)
  refine lv_aload_n hx hb dX3_byteWith_0 rfl (lv_at hl 0 rfl) ?_
  refine lv_iload_n hx hb dX3_byteWith_1 rfl (lv_at hl 1 rfl) ?_
  refine lv_iload_n hx hb dX3_byteWith_2 rfl (lv_at hl 2 rfl) ?_
  refine z_callV (q0 := 0) (G := G) (As := [.int (zI (k)), .int (zI (q))]) (rest := []) hx hb hml hown hT hK (c_X3_byteAt l G pg ik mx co pa w h pts cnt most rch M C P (k) (q) hp (by omega) (by omega)) kc_X3_38 ⟨Nat.le_of_ble_eq_true rfl, Nat.le_of_ble_eq_true rfl⟩ ⟨rfl, rfl⟩ ⟨Nat.zero_le _, Nat.zero_le _⟩ hP rfl rfl rfl rfl hl.1 rfl (Nat.le_of_ble_eq_true rfl) dX3_byteWith_3 ?_
  refine lv_istore (lv' := [(4, .int (zI ((P (k * pts + q))))), (0, .ref pg), (1, .int (zI (k))), (2, .int (zI (q))), (3, .int (zI (ln)))]) hx hb dX3_byteWith_6 hl (by decide) rfl (fun ls hl => ?_)
  refine lv_iload_n hx hb dX3_byteWith_8 rfl (lv_at hl 4 rfl) ?_
  refine z_if_ge (tgt := 17) hx hb dX3_byteWith_9 (by decide) (by omega) (fun h9 => ?_) (fun h9 => ?_)
  · skip
    refine lv_iload hx hb dX3_byteWith_17 (lv_at hl 0 rfl) ?_
    refine lv_aload_n hx hb dX3_byteWith_19 rfl (lv_at hl 1 rfl) ?_
    refine lv_iload_n hx hb dX3_byteWith_20 rfl (lv_at hl 2 rfl) ?_
    refine lv_iload_n hx hb dX3_byteWith_21 rfl (lv_at hl 4 rfl) ?_
    refine z_callV (q0 := 0) (G := G) (As := [.int (zI (k)), .int (zI (ln))]) (rest := [.int (zI ((P (k * pts + q))))]) hx hb hml hown hT hK (c_X3_byteAt l G pg ik mx co pa w h pts cnt most rch M C P (k) (ln) hp (by omega) (by omega)) kc_X3_38 ⟨Nat.le_of_ble_eq_true rfl, Nat.le_of_ble_eq_true rfl⟩ ⟨rfl, rfl⟩ ⟨Nat.zero_le _, Nat.zero_le _⟩ hP rfl rfl rfl rfl hl.1 rfl (Nat.le_of_ble_eq_true rfl) dX3_byteWith_22 ?_
    refine z_mmax hx hb hml hl.1 hown hT kc_X3_42 ⟨Nat.le_of_ble_eq_true rfl, Nat.le_of_ble_eq_true rfl⟩ ⟨Nat.zero_le _, Nat.zero_le _⟩ (by omega) (by omega) dX3_byteWith_25 ?_
    exact z_iret hx hb hr hlocks (by unfold pW; split <;> first | rfl | omega) dX3_byteWith_28
  · skip
    refine lv_iload hx hb dX3_byteWith_12 (lv_at hl 0 rfl) ?_
    refine z_goto (tgt := 28) hx hb dX3_byteWith_14 (by decide) ?_
    exact z_iret hx hb hr hlocks (by unfold pW; split <;> first | rfl | omega) dX3_byteWith_28

set_option maxHeartbeats 4000000 in
set_option maxRecDepth 100000 in
theorem c_X3_sumAt (l : Launch) (G : zG) (pg ik mx co pa : Nat) (w h pts cnt most rch : Int) (M C P : Int → Int) (q : Int) (hp : pgOK w h pts cnt most rch M C P) (hq : 0 ≤ q ∧ q < pts) : zRd l yX3_sumAt cX3_sumAt 4 (some .int) { frames := 1, cells := 0, slots := 0, locals := 22 } G [.ref pg, .int (zI (q))] (pgL G pg ik mx co pa w h pts cnt most rch M C P) (zsum (fun j => P (j * pts + q)) cnt.toNat) := by
  refine Met.ofW (cc := cX3_sumAt) (maxL := 4) (ret := (some .int)) (by decide) rfl ?_
  intro p e s m args below meth c s₁ B hml hv
  obtain ⟨rfl, hP, hK⟩ := hv
  have hx := B.exec
  have hb := B.bytes
  have hr := B.returns
  have hT : ∀ w ∈ TB, w.before _ s = true := fun w h => atoms_spec (ws := Cond.code yX3_sumAt cX3_sumAt 4 (some .int) :: TB) B.pre w (List.mem_cons_of_mem _ h)
  have hown : s.vm.findClass RX3 = some m.cls := findClass_of_methodNamed B.named
  have hlocks := B.notSynchronized
  have hl := lv_entry ([.ref pg, .int (zI (q))]) (n := 4) (Nat.le_of_ble_eq_true rfl)
  rw [lg_entry_eq]
  generalize (lg_sl ([.ref pg, .int (zI (q))]) ++ List.replicate (4 - (lg_sl ([.ref pg, .int (zI (q))])).length) Slot.unset).toArray = ls at hl ⊢
  have hl : lv_has ls 4 [(0, .ref pg), (1, .int (zI (q)))] := hl
  obtain ⟨hw, hh, hpts, hcnt, hmost, hrch, hM, hC, hB⟩ := id hp
  have hpt := pgOK_pts hp
  refine z_iconst hx hb dX3_sumAt_0 ?_
  refine lv_istore_n (lv' := [(2, .int (zI (0))), (0, .ref pg), (1, .int (zI (q)))]) hx hb dX3_sumAt_1 rfl hl (by decide) rfl (fun ls hl => ?_)
  refine z_iconst hx hb dX3_sumAt_2 ?_
  refine lv_istore_n (lv' := [(3, .int (zI (0))), (2, .int (zI (0))), (0, .ref pg), (1, .int (zI (q)))]) hx hb dX3_sumAt_3 rfl hl (by decide) rfl (fun ls hl => ?_)
  refine z_loop (σ := Int × Array Slot) (fun zq => F0 m 4 (zq.2) []) (fun zq => (0 ≤ zq.1 ∧ zq.1 ≤ cnt) ∧ lv_has (zq.2) 4 [(0, .ref pg), (1, .int (zI (q))), (2, .int (zI (zsum (fun j => P (j * pts + q)) zq.1.toNat))), (3, .int (zI (zq.1)))]) (fun zq => (cnt - zq.1).toNat) ?_ (0, ls) ⟨by refine ⟨?_, ?_⟩ <;> omega, lv_sub hl [2, 3, 1, 0] rfl⟩
  intro zq hq ih
  obtain ⟨k, ls⟩ := zq
  obtain ⟨hI, hl⟩ := hq
  try dsimp only at hI hl ih ⊢
  have ih4 := ih
  refine lv_iload_n hx hb dX3_sumAt_4 rfl (lv_at hl 3 rfl) ?_
  refine lv_aload_n hx hb dX3_sumAt_5 rfl (lv_at hl 0 rfl) ?_
  refine gf_X3_14 hx hb hT hown hK hP 0 rfl rfl dX3_sumAt_6 ?_
  refine gf_X3_47 hx hb hT hown hK hP 1 rfl rfl dX3_sumAt_9 ?_
  refine z_icmp_ge (tgt := 30) hx hb dX3_sumAt_12 (by decide) (by omega) (by omega) (fun h12 => ?_) (fun h12 => ?_)
  · skip
    refine lv_iload_n hx hb dX3_sumAt_30 rfl (lv_at hl 2 rfl) ?_
    exact z_iret hx hb hr hlocks (by have hkc : k = cnt := (by omega); subst hkc; rfl) dX3_sumAt_31
  · skip
    refine lv_iload_n hx hb dX3_sumAt_15 rfl (lv_at hl 2 rfl) ?_
    refine lv_aload_n hx hb dX3_sumAt_16 rfl (lv_at hl 0 rfl) ?_
    refine lv_iload_n hx hb dX3_sumAt_17 rfl (lv_at hl 3 rfl) ?_
    refine lv_iload_n hx hb dX3_sumAt_18 rfl (lv_at hl 1 rfl) ?_
    refine z_callV (q0 := 0) (G := G) (As := [.int (zI (k)), .int (zI (q))]) (rest := [.int (zI (zsum (fun j => P (j * pts + q)) k.toNat))]) hx hb hml hown hT hK (c_X3_byteAt l G pg ik mx co pa w h pts cnt most rch M C P (k) (q) hp (by omega) (by omega)) kc_X3_38 ⟨Nat.le_of_ble_eq_true rfl, Nat.le_of_ble_eq_true rfl⟩ ⟨rfl, rfl⟩ ⟨Nat.zero_le _, Nat.zero_le _⟩ hP rfl rfl rfl rfl hl.1 rfl (Nat.le_of_ble_eq_true rfl) dX3_sumAt_19 ?_
    refine z_iadd hx hb dX3_sumAt_22 ?_
    refine z_top (zsum (fun j => P (j * pts + q)) (k + 1).toNat) ((zsum_s _ (by omega)).symm) ?_
    refine lv_istore_n (lv' := [(2, .int (zI (zsum (fun j => P (j * pts + q)) (k + 1).toNat))), (0, .ref pg), (1, .int (zI (q))), (3, .int (zI (k)))]) hx hb dX3_sumAt_23 rfl hl (by decide) rfl (fun ls hl => ?_)
    refine lv_iinc (v := zI (k + (1))) (lv' := [(3, .int (zI (k + (1)))), (2, .int (zI (zsum (fun j => P (j * pts + q)) (k + 1).toNat))), (0, .ref pg), (1, .int (zI (q)))]) hx hb dX3_sumAt_24 hl (k := 3) rfl (zI_add _ _) (by decide) rfl (fun ls hl => ?_)
    refine z_goto (tgt := 4) hx hb dX3_sumAt_27 (by decide) ?_
    exact ih4 (k + 1, ls) ⟨by refine ⟨?_, ?_⟩ <;> omega, lv_sub hl [2, 3, 1, 0] rfl⟩ (by omega)

set_option maxHeartbeats 4000000 in
set_option maxRecDepth 100000 in
theorem c_X2_strength (l : Launch) (G : zG) (pg ik mx co pa : Nat) (w h pts cnt most rch : Int) (M C P : Int → Int) (k b : Int) (hp : pgOK w h pts cnt most rch M C P) (hk : 0 ≤ k ∧ k < 8) (hq : 0 ≤ b ∧ b < 4) : zRd l yX2_strength cX2_strength 3 (some .int) { frames := 1, cells := 0, slots := 0, locals := 13 } G [.ref ik, .int (zI (k)), .int (zI (b))] (pgL G pg ik mx co pa w h pts cnt most rch M C P) (stg M k b) := by
  refine Met.ofW (cc := cX2_strength) (maxL := 3) (ret := (some .int)) (by decide) rfl ?_
  intro p e s m args below meth c s₁ B hml hv
  obtain ⟨rfl, hP, hK⟩ := hv
  have hx := B.exec
  have hb := B.bytes
  have hr := B.returns
  have hT : ∀ w ∈ TB, w.before _ s = true := fun w h => atoms_spec (ws := Cond.code yX2_strength cX2_strength 3 (some .int) :: TB) B.pre w (List.mem_cons_of_mem _ h)
  have hown : s.vm.findClass RX2 = some m.cls := findClass_of_methodNamed B.named
  have hlocks := B.notSynchronized
  have hl := lv_entry ([.ref ik, .int (zI (k)), .int (zI (b))]) (n := 3) (Nat.le_of_ble_eq_true rfl)
  rw [lg_entry_eq]
  generalize (lg_sl ([.ref ik, .int (zI (k)), .int (zI (b))]) ++ List.replicate (3 - (lg_sl ([.ref ik, .int (zI (k)), .int (zI (b))])).length) Slot.unset).toArray = ls at hl ⊢
  have hl : lv_has ls 3 [(0, .ref ik), (1, .int (zI (k))), (2, .int (zI (b)))] := hl
  obtain ⟨hw, hh, hpts, hcnt, hmost, hrch, hM, hC, hB⟩ := id hp
  have hpt := pgOK_pts hp
  have hm1 := hM (k * 4 + b)
  have hm2 := hM (k * 4 + 3)
  refine z_sipush hx hb dX2_strength_0 (by decide +kernel) ?_
  refine lv_aload_n hx hb dX2_strength_3 rfl (lv_at hl 0 rfl) ?_
  refine gf_X2_11 hx hb hT hown hK hP 1 rfl rfl dX2_strength_4 ?_
  refine lv_iload_n hx hb dX2_strength_7 rfl (lv_at hl 1 rfl) ?_
  refine z_iconst hx hb dX2_strength_8 ?_
  refine z_imul hx hb dX2_strength_9 ?_
  refine lv_iload_n hx hb dX2_strength_10 rfl (lv_at hl 2 rfl) ?_
  refine z_iadd hx hb dX2_strength_11 ?_
  refine z_iald hx hb hK hP 3 rfl (⟨by omega, by omega, by omega⟩) dX2_strength_12 ?_
  refine lv_aload_n hx hb dX2_strength_13 rfl (lv_at hl 0 rfl) ?_
  refine gf_X2_11 hx hb hT hown hK hP 1 rfl rfl dX2_strength_14 ?_
  refine lv_iload_n hx hb dX2_strength_17 rfl (lv_at hl 1 rfl) ?_
  refine z_iconst hx hb dX2_strength_18 ?_
  refine z_imul hx hb dX2_strength_19 ?_
  refine z_iconst hx hb dX2_strength_20 ?_
  refine z_iadd hx hb dX2_strength_21 ?_
  refine z_iald hx hb hK hP 3 rfl (⟨by omega, by omega, by omega⟩) dX2_strength_22 ?_
  refine z_iadd hx hb dX2_strength_23 ?_
  refine z_mmin hx hb hml hl.1 hown hT kc_X2_22 ⟨Nat.le_of_ble_eq_true rfl, Nat.le_of_ble_eq_true rfl⟩ ⟨Nat.zero_le _, Nat.zero_le _⟩ (by omega) (by omega) dX2_strength_24 ?_
  exact z_iret hx hb hr hlocks (rfl) dX2_strength_27

set_option maxHeartbeats 4000000 in
set_option maxRecDepth 100000 in
theorem c_X3_bandOf (l : Launch) (G : zG) (pg ik mx co pa : Nat) (w h pts cnt most rch : Int) (M C P : Int → Int) (b q ln : Int) (hp : pgOK w h pts cnt most rch M C P) (hb3 : 0 ≤ b ∧ b < 3) (hq : 0 ≤ q ∧ q < pts) (hln : -1 ≤ ln ∧ ln < pts) : zRd l yX3_bandOf cX3_bandOf 7 (some .int) { frames := 2, cells := 0, slots := 0, locals := 46 } G [.ref pg, .int (zI (b)), .int (zI (q)), .int (zI (ln))] (pgL G pg ik mx co pa w h pts cnt most rch M C P) (bandV M P pts cnt b q ln) := by
  refine Met.ofW (cc := cX3_bandOf) (maxL := 7) (ret := (some .int)) (by decide) rfl ?_
  intro p e s m args below meth c s₁ B hml hv
  obtain ⟨rfl, hP, hK⟩ := hv
  have hx := B.exec
  have hb := B.bytes
  have hr := B.returns
  have hT : ∀ w ∈ TB, w.before _ s = true := fun w h => atoms_spec (ws := Cond.code yX3_bandOf cX3_bandOf 7 (some .int) :: TB) B.pre w (List.mem_cons_of_mem _ h)
  have hown : s.vm.findClass RX3 = some m.cls := findClass_of_methodNamed B.named
  have hlocks := B.notSynchronized
  have hl := lv_entry ([.ref pg, .int (zI (b)), .int (zI (q)), .int (zI (ln))]) (n := 7) (Nat.le_of_ble_eq_true rfl)
  rw [lg_entry_eq]
  generalize (lg_sl ([.ref pg, .int (zI (b)), .int (zI (q)), .int (zI (ln))]) ++ List.replicate (7 - (lg_sl ([.ref pg, .int (zI (b)), .int (zI (q)), .int (zI (ln))])).length) Slot.unset).toArray = ls at hl ⊢
  have hl : lv_has ls 7 [(0, .ref pg), (1, .int (zI (b))), (2, .int (zI (q))), (3, .int (zI (ln)))] := hl
  obtain ⟨hw, hh, hpts, hcnt, hmost, hrch, hM, hC, hB⟩ := id hp
  have hpt := pgOK_pts hp
  refine z_sipush hx hb dX3_bandOf_0 (by decide +kernel) ?_
  refine lv_istore (lv' := [(4, .int (zI (255))), (0, .ref pg), (1, .int (zI (b))), (2, .int (zI (q))), (3, .int (zI (ln)))]) hx hb dX3_bandOf_3 hl (by decide) rfl (fun ls hl => ?_)
  refine z_iconst hx hb dX3_bandOf_5 ?_
  refine lv_istore (lv' := [(5, .int (zI (0))), (4, .int (zI (255))), (0, .ref pg), (1, .int (zI (b))), (2, .int (zI (q))), (3, .int (zI (ln)))]) hx hb dX3_bandOf_6 hl (by decide) rfl (fun ls hl => ?_)
  refine z_loop (σ := Int × Array Slot) (fun zq => F0 m 8 (zq.2) []) (fun zq => (0 ≤ zq.1 ∧ zq.1 ≤ cnt) ∧ lv_has (zq.2) 7 [(0, .ref pg), (1, .int (zI (b))), (2, .int (zI (q))), (3, .int (zI (ln))), (4, .int (zI (bnd (fun j => pW P pts j q ln) (fun j => stg M j b) zq.1.toNat))), (5, .int (zI (zq.1)))]) (fun zq => (cnt - zq.1).toNat) ?_ (0, ls) ⟨by refine ⟨?_, ?_⟩ <;> omega, lv_sub hl [2, 3, 4, 5, 1, 0] rfl⟩
  intro zq hq ih
  obtain ⟨k, ls⟩ := zq
  obtain ⟨hI, hl⟩ := hq
  try dsimp only at hI hl ih ⊢
  have ih8 := ih
  refine lv_iload hx hb dX3_bandOf_8 (lv_at hl 5 rfl) ?_
  refine lv_aload_n hx hb dX3_bandOf_10 rfl (lv_at hl 0 rfl) ?_
  refine gf_X3_14 hx hb hT hown hK hP 0 rfl rfl dX3_bandOf_11 ?_
  refine gf_X3_47 hx hb hT hown hK hP 1 rfl rfl dX3_bandOf_14 ?_
  refine z_icmp_ge (tgt := 64) hx hb dX3_bandOf_17 (by decide) (by omega) (by omega) (fun h17 => ?_) (fun h17 => ?_)
  · skip
    refine lv_iload hx hb dX3_bandOf_64 (lv_at hl 4 rfl) ?_
    exact z_iret hx hb hr hlocks (by have hkc : k = cnt := (by omega); subst hkc; rfl) dX3_bandOf_66
  · skip
    have hf1 : 0 ≤ bnd (fun j => pW P pts j q ln) (fun j => stg M j b) k.toNat ∧ bnd (fun j => pW P pts j q ln) (fun j => stg M j b) k.toNat ≤ 255 := bnd_b (fun j => pW_b hB _ _ _ _) (fun j => stg_b hM _ _) _
    have hf2 := pW_b hB pts k q ln
    have hf3 := stg_b hM k b
    have hf4 := bnd_step hf1 hf2 hf3
    refine lv_aload_n hx hb dX3_bandOf_20 rfl (lv_at hl 0 rfl) ?_
    refine lv_iload hx hb dX3_bandOf_21 (lv_at hl 5 rfl) ?_
    refine lv_iload_n hx hb dX3_bandOf_23 rfl (lv_at hl 2 rfl) ?_
    refine lv_iload_n hx hb dX3_bandOf_24 rfl (lv_at hl 3 rfl) ?_
    refine z_callV (q0 := 0) (G := G) (As := [.int (zI (k)), .int (zI (q)), .int (zI (ln))]) (rest := []) hx hb hml hown hT hK (c_X3_byteWith l G pg ik mx co pa w h pts cnt most rch M C P (k) (q) (ln) hp (by omega) (by omega) (by omega)) kc_X3_68 ⟨Nat.le_of_ble_eq_true rfl, Nat.le_of_ble_eq_true rfl⟩ ⟨rfl, rfl⟩ ⟨Nat.zero_le _, Nat.zero_le _⟩ hP rfl rfl rfl rfl hl.1 rfl (Nat.le_of_ble_eq_true rfl) dX3_bandOf_25 ?_
    refine lv_aload_n hx hb dX3_bandOf_28 rfl (lv_at hl 0 rfl) ?_
    refine gf_X3_14 hx hb hT hown hK hP 0 rfl rfl dX3_bandOf_29 ?_
    refine lv_iload hx hb dX3_bandOf_32 (lv_at hl 5 rfl) ?_
    refine lv_iload_n hx hb dX3_bandOf_34 rfl (lv_at hl 1 rfl) ?_
    refine z_callV (q0 := 1) (G := G) (As := [.int (zI (k)), .int (zI (b))]) (rest := [.int (zI ((pW P pts k q ln)))]) hx hb hml hown hT hK (c_X2_strength l G pg ik mx co pa w h pts cnt most rch M C P (k) (b) hp (by omega) (by omega)) kc_X3_72 ⟨Nat.le_of_ble_eq_true rfl, Nat.le_of_ble_eq_true rfl⟩ ⟨rfl, rfl⟩ ⟨Nat.zero_le _, Nat.zero_le _⟩ hP rfl rfl rfl rfl hl.1 rfl (Nat.le_of_ble_eq_true rfl) dX3_bandOf_35 ?_
    refine z_imul hx hb dX3_bandOf_38 ?_
    refine lv_istore (lv' := [(6, .int (zI (((pW P pts k q ln) * (stg M k b))))), (0, .ref pg), (1, .int (zI (b))), (2, .int (zI (q))), (3, .int (zI (ln))), (4, .int (zI (bnd (fun j => pW P pts j q ln) (fun j => stg M j b) k.toNat))), (5, .int (zI (k)))]) hx hb dX3_bandOf_39 hl (by decide) rfl (fun ls hl => ?_)
    refine lv_iload hx hb dX3_bandOf_41 (lv_at hl 5 rfl) ?_
    refine lv_ldc (v := zI (65025)) hx hb hown (hT _ (mT 350 (by decide +kernel) rfl)) dX3_bandOf_43 ?_
    refine lv_iload hx hb dX3_bandOf_45 (lv_at hl 0 rfl) ?_
    refine z_isub hx hb dX3_bandOf_47 ?_
    refine z_imul hx hb dX3_bandOf_48 ?_
    refine z_sipush hx hb dX3_bandOf_49 (by decide +kernel) ?_
    refine z_iadd hx hb dX3_bandOf_52 ?_
    refine lv_ldc (v := zI (65025)) hx hb hown (hT _ (mT 350 (by decide +kernel) rfl)) dX3_bandOf_53 ?_
    refine z_idiv hx hb dX3_bandOf_55 (by omega) (by omega) ?_
    refine z_top (bnd (fun j => pW P pts j q ln) (fun j => stg M j b) (k + 1).toNat) ((bnd_s _ _ (by omega)).symm) ?_
    refine lv_istore (lv' := [(4, .int (zI (bnd (fun j => pW P pts j q ln) (fun j => stg M j b) (k + 1).toNat))), (6, .int (zI (((pW P pts k q ln) * (stg M k b))))), (0, .ref pg), (1, .int (zI (b))), (2, .int (zI (q))), (3, .int (zI (ln))), (5, .int (zI (k)))]) hx hb dX3_bandOf_56 hl (by decide) rfl (fun ls hl => ?_)
    refine lv_iinc (v := zI (k + (1))) (lv' := [(5, .int (zI (k + (1)))), (4, .int (zI (bnd (fun j => pW P pts j q ln) (fun j => stg M j b) (k + 1).toNat))), (6, .int (zI (((pW P pts k q ln) * (stg M k b))))), (0, .ref pg), (1, .int (zI (b))), (2, .int (zI (q))), (3, .int (zI (ln)))]) hx hb dX3_bandOf_58 hl (k := 6) rfl (zI_add _ _) (by decide) rfl (fun ls hl => ?_)
    refine z_goto (tgt := 8) hx hb dX3_bandOf_61 (by decide) ?_
    exact ih8 (k + 1, ls) ⟨by refine ⟨?_, ?_⟩ <;> omega, lv_sub hl [3, 4, 5, 6, 1, 0] rfl⟩ (by omega)

set_option maxHeartbeats 4000000 in
set_option maxRecDepth 100000 in
theorem c_X3_lightness (l : Launch) (G : zG) (pg ik mx co pa : Nat) (w h pts cnt most rch : Int) (M C P : Int → Int) (q : Int) (hp : pgOK w h pts cnt most rch M C P) (hq : 0 ≤ q ∧ q < pts) : zRd l yX3_lightness cX3_lightness 2 (some .int) { frames := 3, cells := 0, slots := 0, locals := 72 } G [.ref pg, .int (zI (q))] (pgL G pg ik mx co pa w h pts cnt most rch M C P) (lightV M P pts cnt q) := by
  refine Met.ofW (cc := cX3_lightness) (maxL := 2) (ret := (some .int)) (by decide) rfl ?_
  intro p e s m args below meth c s₁ B hml hv
  obtain ⟨rfl, hP, hK⟩ := hv
  have hx := B.exec
  have hb := B.bytes
  have hr := B.returns
  have hT : ∀ w ∈ TB, w.before _ s = true := fun w h => atoms_spec (ws := Cond.code yX3_lightness cX3_lightness 2 (some .int) :: TB) B.pre w (List.mem_cons_of_mem _ h)
  have hown : s.vm.findClass RX3 = some m.cls := findClass_of_methodNamed B.named
  have hlocks := B.notSynchronized
  have hl := lv_entry ([.ref pg, .int (zI (q))]) (n := 2) (Nat.le_of_ble_eq_true rfl)
  rw [lg_entry_eq]
  generalize (lg_sl ([.ref pg, .int (zI (q))]) ++ List.replicate (2 - (lg_sl ([.ref pg, .int (zI (q))])).length) Slot.unset).toArray = ls at hl ⊢
  have hl : lv_has ls 2 [(0, .ref pg), (1, .int (zI (q)))] := hl
  obtain ⟨hw, hh, hpts, hcnt, hmost, hrch, hM, hC, hB⟩ := id hp
  have hpt := pgOK_pts hp
  have hb0 := bandV_b hM hB pts cnt 0 q (-1)
  have hb1 := bandV_b hM hB pts cnt 1 q (-1)
  have hb2 := bandV_b hM hB pts cnt 2 q (-1)
  refine z_bipush hx hb dX3_lightness_0 (by decide +kernel) ?_
  refine lv_aload_n hx hb dX3_lightness_2 rfl (lv_at hl 0 rfl) ?_
  refine z_iconst hx hb dX3_lightness_3 ?_
  refine lv_iload_n hx hb dX3_lightness_4 rfl (lv_at hl 1 rfl) ?_
  refine z_iconst hx hb dX3_lightness_5 ?_
  refine z_callV (q0 := 0) (G := G) (As := [.int (zI (0)), .int (zI (q)), .int (zI ((-1)))]) (rest := [.int (zI (30))]) hx hb hml hown hT hK (c_X3_bandOf l G pg ik mx co pa w h pts cnt most rch M C P (0) (q) ((-1)) hp (by omega) (by omega) (by omega)) kc_X3_76 ⟨Nat.le_of_ble_eq_true rfl, Nat.le_of_ble_eq_true rfl⟩ ⟨rfl, rfl⟩ ⟨Nat.zero_le _, Nat.zero_le _⟩ hP rfl rfl rfl rfl hl.1 rfl (Nat.le_of_ble_eq_true rfl) dX3_lightness_6 ?_
  refine z_imul hx hb dX3_lightness_9 ?_
  refine z_bipush hx hb dX3_lightness_10 (by decide +kernel) ?_
  refine lv_aload_n hx hb dX3_lightness_12 rfl (lv_at hl 0 rfl) ?_
  refine z_iconst hx hb dX3_lightness_13 ?_
  refine lv_iload_n hx hb dX3_lightness_14 rfl (lv_at hl 1 rfl) ?_
  refine z_iconst hx hb dX3_lightness_15 ?_
  refine z_callV (q0 := 0) (G := G) (As := [.int (zI (1)), .int (zI (q)), .int (zI ((-1)))]) (rest := [.int (zI (59)), .int (zI ((30 * (bandV M P pts cnt 0 q (-1)))))]) hx hb hml hown hT hK (c_X3_bandOf l G pg ik mx co pa w h pts cnt most rch M C P (1) (q) ((-1)) hp (by omega) (by omega) (by omega)) kc_X3_76 ⟨Nat.le_of_ble_eq_true rfl, Nat.le_of_ble_eq_true rfl⟩ ⟨rfl, rfl⟩ ⟨Nat.zero_le _, Nat.zero_le _⟩ hP rfl rfl rfl rfl hl.1 rfl (Nat.le_of_ble_eq_true rfl) dX3_lightness_16 ?_
  refine z_imul hx hb dX3_lightness_19 ?_
  refine z_iadd hx hb dX3_lightness_20 ?_
  refine z_bipush hx hb dX3_lightness_21 (by decide +kernel) ?_
  refine lv_aload_n hx hb dX3_lightness_23 rfl (lv_at hl 0 rfl) ?_
  refine z_iconst hx hb dX3_lightness_24 ?_
  refine lv_iload_n hx hb dX3_lightness_25 rfl (lv_at hl 1 rfl) ?_
  refine z_iconst hx hb dX3_lightness_26 ?_
  refine z_callV (q0 := 0) (G := G) (As := [.int (zI (2)), .int (zI (q)), .int (zI ((-1)))]) (rest := [.int (zI (11)), .int (zI (((30 * (bandV M P pts cnt 0 q (-1))) + (59 * (bandV M P pts cnt 1 q (-1))))))]) hx hb hml hown hT hK (c_X3_bandOf l G pg ik mx co pa w h pts cnt most rch M C P (2) (q) ((-1)) hp (by omega) (by omega) (by omega)) kc_X3_76 ⟨Nat.le_of_ble_eq_true rfl, Nat.le_of_ble_eq_true rfl⟩ ⟨rfl, rfl⟩ ⟨Nat.zero_le _, Nat.zero_le _⟩ hP rfl rfl rfl rfl hl.1 rfl (Nat.le_of_ble_eq_true rfl) dX3_lightness_27 ?_
  refine z_imul hx hb dX3_lightness_30 ?_
  refine z_iadd hx hb dX3_lightness_31 ?_
  refine z_bipush hx hb dX3_lightness_32 (by decide +kernel) ?_
  refine z_idiv hx hb dX3_lightness_34 (by omega) (by omega) ?_
  exact z_iret hx hb hr hlocks (rfl) dX3_lightness_35

set_option maxHeartbeats 4000000 in
set_option maxRecDepth 100000 in
theorem c_X3_unlike (l : Launch) (G : zG) (pg ik mx co pa : Nat) (w h pts cnt most rch : Int) (M C P : Int → Int) (one oth : Int) (hp : pgOK w h pts cnt most rch M C P) (h1 : 0 ≤ one ∧ one < pts) (h2 : 0 ≤ oth ∧ oth < pts) : zRd l yX3_unlike cX3_unlike 8 (some .boolean) { frames := 1, cells := 0, slots := 0, locals := 22 } G [.ref pg, .int (zI (one)), .int (zI (oth))] (pgL G pg ik mx co pa w h pts cnt most rch M C P) (bI (unlB P pts cnt one oth)) := by
  refine Met.ofW (cc := cX3_unlike) (maxL := 8) (ret := (some .boolean)) (by decide) rfl ?_
  intro p e s m args below meth c s₁ B hml hv
  obtain ⟨rfl, hP, hK⟩ := hv
  have hx := B.exec
  have hb := B.bytes
  have hr := B.returns
  have hT : ∀ w ∈ TB, w.before _ s = true := fun w h => atoms_spec (ws := Cond.code yX3_unlike cX3_unlike 8 (some .boolean) :: TB) B.pre w (List.mem_cons_of_mem _ h)
  have hown : s.vm.findClass RX3 = some m.cls := findClass_of_methodNamed B.named
  have hlocks := B.notSynchronized
  have hl := lv_entry ([.ref pg, .int (zI (one)), .int (zI (oth))]) (n := 8) (Nat.le_of_ble_eq_true rfl)
  rw [lg_entry_eq]
  generalize (lg_sl ([.ref pg, .int (zI (one)), .int (zI (oth))]) ++ List.replicate (8 - (lg_sl ([.ref pg, .int (zI (one)), .int (zI (oth))])).length) Slot.unset).toArray = ls at hl ⊢
  have hl : lv_has ls 8 [(0, .ref pg), (1, .int (zI (one))), (2, .int (zI (oth)))] := hl
  obtain ⟨hw, hh, hpts, hcnt, hmost, hrch, hM, hC, hB⟩ := id hp
  have hpt := pgOK_pts hp
  have hb1 : ∀ k, 0 ≤ P (k * pts + one) ∧ P (k * pts + one) ≤ 255 := fun k => hB _
  have hb2 : ∀ k, 0 ≤ P (k * pts + oth) ∧ P (k * pts + oth) ≤ 255 := fun k => hB _
  refine z_iconst hx hb dX3_unlike_0 ?_
  refine lv_istore_n (lv' := [(3, .int (zI (0))), (0, .ref pg), (1, .int (zI (one))), (2, .int (zI (oth)))]) hx hb dX3_unlike_1 rfl hl (by decide) rfl (fun ls hl => ?_)
  refine z_iconst hx hb dX3_unlike_2 ?_
  refine lv_istore (lv' := [(4, .int (zI (0))), (3, .int (zI (0))), (0, .ref pg), (1, .int (zI (one))), (2, .int (zI (oth)))]) hx hb dX3_unlike_3 hl (by decide) rfl (fun ls hl => ?_)
  refine z_iconst hx hb dX3_unlike_5 ?_
  refine lv_istore (lv' := [(5, .int (zI (0))), (4, .int (zI (0))), (3, .int (zI (0))), (0, .ref pg), (1, .int (zI (one))), (2, .int (zI (oth)))]) hx hb dX3_unlike_6 hl (by decide) rfl (fun ls hl => ?_)
  refine z_loop (σ := Int × Array Slot) (fun zq => F0 m 8 (zq.2) []) (fun zq => ((0 ≤ zq.1 ∧ zq.1 ≤ cnt) ∧ anyB (fun j => mk25 P pts one j && mk25 P pts oth j) zq.1.toNat = false) ∧ lv_has (zq.2) 8 [(0, .ref pg), (1, .int (zI (one))), (2, .int (zI (oth))), (3, .int (zI (bI (anyB (mk25 P pts one) zq.1.toNat)))), (4, .int (zI (bI (anyB (mk25 P pts oth) zq.1.toNat)))), (5, .int (zI (zq.1)))]) (fun zq => (cnt - zq.1).toNat) ?_ (0, ls) ⟨⟨by omega, rfl⟩, lv_sub hl [3, 4, 5, 2, 1, 0] rfl⟩
  intro zq hq ih
  obtain ⟨k, ls⟩ := zq
  obtain ⟨⟨hI, hI2⟩, hl⟩ := hq
  try dsimp only at hI hI2 hl ih ⊢
  have ih8 := ih
  refine lv_iload hx hb dX3_unlike_8 (lv_at hl 5 rfl) ?_
  refine lv_aload_n hx hb dX3_unlike_10 rfl (lv_at hl 0 rfl) ?_
  refine gf_X3_14 hx hb hT hown hK hP 0 rfl rfl dX3_unlike_11 ?_
  refine gf_X3_47 hx hb hT hown hK hP 1 rfl rfl dX3_unlike_14 ?_
  refine z_icmp_ge (tgt := 108) hx hb dX3_unlike_17 (by decide) (by omega) (by omega) (fun h17 => ?_) (fun h17 => ?_)
  · skip
    have hkc : k = cnt := by omega
    subst hkc
    have h3 := bI_01 (anyB (mk25 P pts one) k.toNat)
    have h4 := bI_01 (anyB (mk25 P pts oth) k.toNat)
    refine lv_iload_n hx hb dX3_unlike_108 rfl (lv_at hl 3 rfl) ?_
    refine z_if_eq (tgt := 121) hx hb dX3_unlike_109 (by decide) (by omega) (fun h109 => ?_) (fun h109 => ?_)
    · skip
      refine z_iconst hx hb dX3_unlike_121 ?_
      exact z_zret hx hb hr hlocks (by omega) (by unfold unlB; rw [hI2]; cases hA9 : anyB (mk25 P pts one) k.toNat <;> cases hB9 : anyB (mk25 P pts oth) k.toNat <;> simp_all [bI]) dX3_unlike_122
    · skip
      refine lv_iload hx hb dX3_unlike_112 (lv_at hl 4 rfl) ?_
      refine z_if_eq (tgt := 121) hx hb dX3_unlike_114 (by decide) (by omega) (fun h114 => ?_) (fun h114 => ?_)
      · skip
        refine z_iconst hx hb dX3_unlike_121 ?_
        exact z_zret hx hb hr hlocks (by omega) (by unfold unlB; rw [hI2]; cases hA9 : anyB (mk25 P pts one) k.toNat <;> cases hB9 : anyB (mk25 P pts oth) k.toNat <;> simp_all [bI]) dX3_unlike_122
      · skip
        refine z_iconst hx hb dX3_unlike_117 ?_
        refine z_goto (tgt := 122) hx hb dX3_unlike_118 (by decide) ?_
        exact z_zret hx hb hr hlocks (by omega) (by unfold unlB; rw [hI2]; cases hA9 : anyB (mk25 P pts one) k.toNat <;> cases hB9 : anyB (mk25 P pts oth) k.toNat <;> simp_all [bI]) dX3_unlike_122
  · skip
    have hb1 := hB (k * pts + one)
    have hb2 := hB (k * pts + oth)
    refine z_cut (σ := Array Slot) (fun zq => F0 m 37 (zq) [.int (zI (bI (mk25 P pts one k)))]) (fun zq => (True) ∧ lv_has (zq) 8 [(0, .ref pg), (1, .int (zI (one))), (2, .int (zI (oth))), (3, .int (zI (bI (anyB (mk25 P pts one) k.toNat)))), (4, .int (zI (bI (anyB (mk25 P pts oth) k.toNat)))), (5, .int (zI (k)))]) ?_ ?_
    · intro ls hq
      obtain ⟨hJ, hl⟩ := hq
      try dsimp only at hJ hl ⊢
      refine lv_istore (lv' := [(6, .int (zI (bI (mk25 P pts one k)))), (0, .ref pg), (1, .int (zI (one))), (2, .int (zI (oth))), (3, .int (zI (bI (anyB (mk25 P pts one) k.toNat)))), (4, .int (zI (bI (anyB (mk25 P pts oth) k.toNat)))), (5, .int (zI (k)))]) hx hb dX3_unlike_37 hl (by decide) rfl (fun ls hl => ?_)
      refine z_cut (σ := Array Slot) (fun zq => F0 m 56 (zq) [.int (zI (bI (mk25 P pts oth k)))]) (fun zq => (True) ∧ lv_has (zq) 8 [(6, .int (zI (bI (mk25 P pts one k)))), (0, .ref pg), (1, .int (zI (one))), (2, .int (zI (oth))), (3, .int (zI (bI (anyB (mk25 P pts one) k.toNat)))), (4, .int (zI (bI (anyB (mk25 P pts oth) k.toNat)))), (5, .int (zI (k)))]) ?_ ?_
      · intro ls hq
        obtain ⟨hJ, hl⟩ := hq
        try dsimp only at hJ hl ⊢
        refine lv_istore (lv' := [(7, .int (zI (bI (mk25 P pts oth k)))), (6, .int (zI (bI (mk25 P pts one k)))), (0, .ref pg), (1, .int (zI (one))), (2, .int (zI (oth))), (3, .int (zI (bI (anyB (mk25 P pts one) k.toNat)))), (4, .int (zI (bI (anyB (mk25 P pts oth) k.toNat)))), (5, .int (zI (k)))]) hx hb dX3_unlike_56 hl (by decide) rfl (fun ls hl => ?_)
        have h6 := bI_01 (mk25 P pts one k)
        have h7 := bI_01 (mk25 P pts oth k)
        refine z_cut (σ := Array Slot) (fun zq => F0 m 70 (zq) []) (fun zq => ((mk25 P pts one k && mk25 P pts oth k) = false) ∧ lv_has (zq) 8 [(7, .int (zI (bI (mk25 P pts oth k)))), (6, .int (zI (bI (mk25 P pts one k)))), (0, .ref pg), (1, .int (zI (one))), (2, .int (zI (oth))), (3, .int (zI (bI (anyB (mk25 P pts one) k.toNat)))), (4, .int (zI (bI (anyB (mk25 P pts oth) k.toNat)))), (5, .int (zI (k)))]) ?_ ?_
        · intro ls hq
          obtain ⟨hJ70, hl⟩ := hq
          try dsimp only at hJ70 hl ⊢
          have h3 := bI_01 (anyB (mk25 P pts one) k.toNat)
          have h4 := bI_01 (anyB (mk25 P pts oth) k.toNat)
          refine z_cut (σ := Array Slot) (fun zq => F0 m 84 (zq) [.int (zI (bI (anyB (mk25 P pts one) (k + 1).toNat)))]) (fun zq => (True) ∧ lv_has (zq) 8 [(7, .int (zI (bI (mk25 P pts oth k)))), (6, .int (zI (bI (mk25 P pts one k)))), (0, .ref pg), (1, .int (zI (one))), (2, .int (zI (oth))), (3, .int (zI (bI (anyB (mk25 P pts one) k.toNat)))), (4, .int (zI (bI (anyB (mk25 P pts oth) k.toNat)))), (5, .int (zI (k)))]) ?_ ?_
          · intro ls hq
            obtain ⟨hJ, hl⟩ := hq
            try dsimp only at hJ hl ⊢
            refine lv_istore_n (lv' := [(3, .int (zI (bI (anyB (mk25 P pts one) (k + 1).toNat)))), (7, .int (zI (bI (mk25 P pts oth k)))), (6, .int (zI (bI (mk25 P pts one k)))), (0, .ref pg), (1, .int (zI (one))), (2, .int (zI (oth))), (4, .int (zI (bI (anyB (mk25 P pts oth) k.toNat)))), (5, .int (zI (k)))]) hx hb dX3_unlike_84 rfl hl (by decide) rfl (fun ls hl => ?_)
            refine z_cut (σ := Array Slot) (fun zq => F0 m 100 (zq) [.int (zI (bI (anyB (mk25 P pts oth) (k + 1).toNat)))]) (fun zq => (True) ∧ lv_has (zq) 8 [(3, .int (zI (bI (anyB (mk25 P pts one) (k + 1).toNat)))), (7, .int (zI (bI (mk25 P pts oth k)))), (6, .int (zI (bI (mk25 P pts one k)))), (0, .ref pg), (1, .int (zI (one))), (2, .int (zI (oth))), (4, .int (zI (bI (anyB (mk25 P pts oth) k.toNat)))), (5, .int (zI (k)))]) ?_ ?_
            · intro ls hq
              obtain ⟨hJ, hl⟩ := hq
              try dsimp only at hJ hl ⊢
              refine lv_istore (lv' := [(4, .int (zI (bI (anyB (mk25 P pts oth) (k + 1).toNat)))), (3, .int (zI (bI (anyB (mk25 P pts one) (k + 1).toNat)))), (7, .int (zI (bI (mk25 P pts oth k)))), (6, .int (zI (bI (mk25 P pts one k)))), (0, .ref pg), (1, .int (zI (one))), (2, .int (zI (oth))), (5, .int (zI (k)))]) hx hb dX3_unlike_100 hl (by decide) rfl (fun ls hl => ?_)
              refine lv_iinc (v := zI (k + (1))) (lv' := [(5, .int (zI (k + (1)))), (4, .int (zI (bI (anyB (mk25 P pts oth) (k + 1).toNat)))), (3, .int (zI (bI (anyB (mk25 P pts one) (k + 1).toNat)))), (7, .int (zI (bI (mk25 P pts oth k)))), (6, .int (zI (bI (mk25 P pts one k)))), (0, .ref pg), (1, .int (zI (one))), (2, .int (zI (oth)))]) hx hb dX3_unlike_102 hl (k := 7) rfl (zI_add _ _) (by decide) rfl (fun ls hl => ?_)
              refine z_goto (tgt := 8) hx hb dX3_unlike_105 (by decide) ?_
              exact ih8 (k + 1, ls) ⟨⟨by omega, by rw [anyB_s _ (by omega), hI2, hJ70]; rfl⟩, lv_sub hl [5, 6, 7, 2, 1, 0] rfl⟩ (by omega)
            intro J100
            refine lv_iload hx hb dX3_unlike_85 (lv_at hl 6 rfl) ?_
            refine z_if_ne (tgt := 95) hx hb dX3_unlike_87 (by decide) (by omega) (fun h87 => ?_) (fun h87 => ?_)
            · skip
              refine z_iconst hx hb dX3_unlike_95 ?_
              refine z_goto (tgt := 100) hx hb dX3_unlike_96 (by decide) ?_
              refine z_top (bI (anyB (mk25 P pts oth) (k + 1).toNat)) (by rw [anyB_s _ (by omega)]; cases hA9 : anyB (mk25 P pts oth) k.toNat <;> cases hB9 : mk25 P pts oth k <;> simp_all [bI]) ?_
              exact J100 (ls) ⟨trivial, lv_sub hl [0, 1, 2, 3, 4, 5, 6, 7] rfl⟩
            · skip
              refine lv_iload hx hb dX3_unlike_90 (lv_at hl 1 rfl) ?_
              refine z_if_eq (tgt := 99) hx hb dX3_unlike_92 (by decide) (by omega) (fun h92 => ?_) (fun h92 => ?_)
              · skip
                refine z_iconst hx hb dX3_unlike_99 ?_
                refine z_top (bI (anyB (mk25 P pts oth) (k + 1).toNat)) (by rw [anyB_s _ (by omega)]; cases hA9 : anyB (mk25 P pts oth) k.toNat <;> cases hB9 : mk25 P pts oth k <;> simp_all [bI]) ?_
                exact J100 (ls) ⟨trivial, lv_sub hl [0, 1, 2, 3, 4, 5, 6, 7] rfl⟩
              · skip
                refine z_iconst hx hb dX3_unlike_95 ?_
                refine z_goto (tgt := 100) hx hb dX3_unlike_96 (by decide) ?_
                refine z_top (bI (anyB (mk25 P pts oth) (k + 1).toNat)) (by rw [anyB_s _ (by omega)]; cases hA9 : anyB (mk25 P pts oth) k.toNat <;> cases hB9 : mk25 P pts oth k <;> simp_all [bI]) ?_
                exact J100 (ls) ⟨trivial, lv_sub hl [0, 1, 2, 3, 4, 5, 6, 7] rfl⟩
          intro J84
          refine lv_iload_n hx hb dX3_unlike_70 rfl (lv_at hl 5 rfl) ?_
          refine z_if_ne (tgt := 79) hx hb dX3_unlike_71 (by decide) (by omega) (fun h71 => ?_) (fun h71 => ?_)
          · skip
            refine z_iconst hx hb dX3_unlike_79 ?_
            refine z_goto (tgt := 84) hx hb dX3_unlike_80 (by decide) ?_
            refine z_top (bI (anyB (mk25 P pts one) (k + 1).toNat)) (by rw [anyB_s _ (by omega)]; cases hA9 : anyB (mk25 P pts one) k.toNat <;> cases hB9 : mk25 P pts one k <;> simp_all [bI]) ?_
            exact J84 (ls) ⟨trivial, lv_sub hl [0, 1, 2, 3, 4, 5, 6, 7] rfl⟩
          · skip
            refine lv_iload hx hb dX3_unlike_74 (lv_at hl 1 rfl) ?_
            refine z_if_eq (tgt := 83) hx hb dX3_unlike_76 (by decide) (by omega) (fun h76 => ?_) (fun h76 => ?_)
            · skip
              refine z_iconst hx hb dX3_unlike_83 ?_
              refine z_top (bI (anyB (mk25 P pts one) (k + 1).toNat)) (by rw [anyB_s _ (by omega)]; cases hA9 : anyB (mk25 P pts one) k.toNat <;> cases hB9 : mk25 P pts one k <;> simp_all [bI]) ?_
              exact J84 (ls) ⟨trivial, lv_sub hl [0, 1, 2, 3, 4, 5, 6, 7] rfl⟩
            · skip
              refine z_iconst hx hb dX3_unlike_79 ?_
              refine z_goto (tgt := 84) hx hb dX3_unlike_80 (by decide) ?_
              refine z_top (bI (anyB (mk25 P pts one) (k + 1).toNat)) (by rw [anyB_s _ (by omega)]; cases hA9 : anyB (mk25 P pts one) k.toNat <;> cases hB9 : mk25 P pts one k <;> simp_all [bI]) ?_
              exact J84 (ls) ⟨trivial, lv_sub hl [0, 1, 2, 3, 4, 5, 6, 7] rfl⟩
        intro J70
        refine lv_iload hx hb dX3_unlike_58 (lv_at hl 1 rfl) ?_
        refine z_if_eq (tgt := 70) hx hb dX3_unlike_60 (by decide) (by omega) (fun h60 => ?_) (fun h60 => ?_)
        · skip
          exact J70 (ls) ⟨by first | (rw [bI_f.mp h60]; rfl) | (rw [bI_f.mp h65]; simp), lv_sub hl [0, 1, 2, 3, 4, 5, 6, 7] rfl⟩
        · skip
          refine lv_iload hx hb dX3_unlike_63 (lv_at hl 0 rfl) ?_
          refine z_if_eq (tgt := 70) hx hb dX3_unlike_65 (by decide) (by omega) (fun h65 => ?_) (fun h65 => ?_)
          · skip
            exact J70 (ls) ⟨by first | (rw [bI_f.mp h60]; rfl) | (rw [bI_f.mp h65]; simp), lv_sub hl [0, 1, 2, 3, 4, 5, 6, 7] rfl⟩
          · skip
            refine z_iconst hx hb dX3_unlike_68 ?_
            exact z_zret hx hb hr hlocks (Or.inl rfl) (by rw [unl_hit (k := k) (by omega) (bI_t.mp h60) (bI_t.mp h65)]; rfl) dX3_unlike_69
      intro J56
      refine lv_aload_n hx hb dX3_unlike_39 rfl (lv_at hl 1 rfl) ?_
      refine lv_iload hx hb dX3_unlike_40 (lv_at hl 6 rfl) ?_
      refine lv_iload_n hx hb dX3_unlike_42 rfl (lv_at hl 3 rfl) ?_
      refine z_callV (q0 := 0) (G := G) (As := [.int (zI (k)), .int (zI (oth))]) (rest := []) hx hb hml hown hT hK (c_X3_byteAt l G pg ik mx co pa w h pts cnt most rch M C P (k) (oth) hp (by omega) (by omega)) kc_X3_38 ⟨Nat.le_of_ble_eq_true rfl, Nat.le_of_ble_eq_true rfl⟩ ⟨rfl, rfl⟩ ⟨Nat.zero_le _, Nat.zero_le _⟩ hP rfl rfl rfl rfl hl.1 rfl (Nat.le_of_ble_eq_true rfl) dX3_unlike_43 ?_
      refine z_bipush hx hb dX3_unlike_46 (by decide +kernel) ?_
      refine z_icmp_lt (tgt := 55) hx hb dX3_unlike_48 (by decide) (by omega) (by omega) (fun h48 => ?_) (fun h48 => ?_)
      · skip
        refine z_iconst hx hb dX3_unlike_55 ?_
        refine z_top (bI (mk25 P pts oth k)) (bI_0 (by omega)) ?_
        exact J56 (ls) ⟨trivial, lv_sub hl [0, 1, 2, 3, 4, 5, 6] rfl⟩
      · skip
        refine z_iconst hx hb dX3_unlike_51 ?_
        refine z_goto (tgt := 56) hx hb dX3_unlike_52 (by decide) ?_
        refine z_top (bI (mk25 P pts oth k)) (bI_1 (by omega)) ?_
        exact J56 (ls) ⟨trivial, lv_sub hl [0, 1, 2, 3, 4, 5, 6] rfl⟩
    intro J37
    refine lv_aload_n hx hb dX3_unlike_20 rfl (lv_at hl 0 rfl) ?_
    refine lv_iload hx hb dX3_unlike_21 (lv_at hl 5 rfl) ?_
    refine lv_iload_n hx hb dX3_unlike_23 rfl (lv_at hl 1 rfl) ?_
    refine z_callV (q0 := 0) (G := G) (As := [.int (zI (k)), .int (zI (one))]) (rest := []) hx hb hml hown hT hK (c_X3_byteAt l G pg ik mx co pa w h pts cnt most rch M C P (k) (one) hp (by omega) (by omega)) kc_X3_38 ⟨Nat.le_of_ble_eq_true rfl, Nat.le_of_ble_eq_true rfl⟩ ⟨rfl, rfl⟩ ⟨Nat.zero_le _, Nat.zero_le _⟩ hP rfl rfl rfl rfl hl.1 rfl (Nat.le_of_ble_eq_true rfl) dX3_unlike_24 ?_
    refine z_bipush hx hb dX3_unlike_27 (by decide +kernel) ?_
    refine z_icmp_lt (tgt := 36) hx hb dX3_unlike_29 (by decide) (by omega) (by omega) (fun h29 => ?_) (fun h29 => ?_)
    · skip
      refine z_iconst hx hb dX3_unlike_36 ?_
      refine z_top (bI (mk25 P pts one k)) (bI_0 (by omega)) ?_
      exact J37 (ls) ⟨trivial, lv_sub hl [0, 1, 2, 3, 4, 5] rfl⟩
    · skip
      refine z_iconst hx hb dX3_unlike_32 ?_
      refine z_goto (tgt := 37) hx hb dX3_unlike_33 (by decide) ?_
      refine z_top (bI (mk25 P pts one k)) (bI_1 (by omega)) ?_
      exact J37 (ls) ⟨trivial, lv_sub hl [0, 1, 2, 3, 4, 5] rfl⟩

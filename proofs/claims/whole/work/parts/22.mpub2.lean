theorem lin_b {a c t d : Int} (ha : 0 ≤ a ∧ a ≤ 255) (hc : 0 ≤ c ∧ c ≤ 255) (ht : 0 ≤ t ∧ t ≤ d) (hd : 0 < d) : 0 ≤ a + ((c - a) * t).tdiv d ∧ a + ((c - a) * t).tdiv d ≤ 255 := by
  by_cases q : a ≤ c
  · have h1 := Int.mul_nonneg (a := c - a) (b := t) (by omega) ht.1
    have h2 := Int.mul_le_mul_of_nonneg_left (a := t) (b := d) (c := c - a) ht.2 (by omega)
    rw [Int.tdiv_eq_ediv_of_nonneg h1]
    have h3 := Int.ediv_nonneg h1 (show 0 ≤ d by omega)
    have h4 := Int.ediv_le_of_le_mul hd h2
    omega
  · have h1 := Int.mul_nonneg (a := a - c) (b := t) (by omega) ht.1
    have h2 := Int.mul_le_mul_of_nonneg_left (a := t) (b := d) (c := a - c) ht.2 (by omega)
    have h5 : (c - a) * t = -((a - c) * t) := by rw [← Int.neg_mul]; congr 1; omega
    rw [h5, Int.neg_tdiv, Int.tdiv_eq_ediv_of_nonneg h1]
    have h3 := Int.ediv_nonneg h1 (show 0 ≤ d by omega)
    have h4 := Int.ediv_le_of_le_mul hd h2
    omega
theorem dnR_p {T : Int → Int} (h0 : T 0 ≠ -1) : ∀ n : Nat, T (dnR T n) ≠ -1 ∧ 0 ≤ dnR T n ∧ dnR T n ≤ n ∧ ∀ j : Int, dnR T n < j → j ≤ n → T j = -1 := by
  intro n
  induction n with
  | zero => exact ⟨h0, Int.le_refl 0, Int.le_refl 0, fun j h1 h2 => by have : dnR T 0 = 0 := rfl; omega⟩
  | succ n ih =>
    have e : dnR T (n + 1) = if T ((n : Int) + 1) = -1 then dnR T n else (n : Int) + 1 := rfl
    by_cases q : T ((n : Int) + 1) = -1
    · rw [e, if_pos q]
      refine ⟨ih.1, ih.2.1, by have := ih.2.2.1; omega, fun j h1 h2 => ?_⟩
      by_cases q2 : j = (n : Int) + 1
      · rw [q2]; exact q
      · exact ih.2.2.2 j h1 (by omega)
    · rw [e, if_neg q]
      exact ⟨q, by omega, by omega, fun j h1 h2 => by omega⟩
theorem upR_p {T : Int → Int} (h5 : T 255 ≠ -1) : ∀ (n : Nat) (v : Int), v + n = 255 → T (upR T n v) ≠ -1 ∧ v ≤ upR T n v ∧ upR T n v ≤ 255 ∧ ∀ j : Int, v ≤ j → j < upR T n v → T j = -1 := by
  intro n
  induction n with
  | zero => intro v hv; have e : v = 255 := by omega
            exact ⟨by rw [e]; exact h5, Int.le_refl v, by show v ≤ 255; omega, fun j h1 h2 => by have : upR T 0 v = v := rfl; omega⟩
  | succ n ih =>
    intro v hv
    have e : upR T (n + 1) v = if T v = -1 then upR T n (v + 1) else v := rfl
    by_cases q : T v = -1
    · rw [e, if_pos q]
      obtain ⟨i1, i2, i3, i4⟩ := ih (v + 1) (by omega)
      refine ⟨i1, by omega, i3, fun j h1 h2 => ?_⟩
      by_cases q2 : j = v
      · rw [q2]; exact q
      · exact i4 j (by omega) h2
    · rw [e, if_neg q]
      exact ⟨q, Int.le_refl v, by omega, fun j h1 h2 => by omega⟩
theorem tcV_b {T : Int → Int} (hT : ∀ j, -1 ≤ T j ∧ T j ≤ 255) (h0 : T 0 ≠ -1) (h5 : T 255 ≠ -1) {b : Int} (hb : 0 ≤ b ∧ b ≤ 255) : 0 ≤ tcV T b ∧ tcV T b ≤ 255 := by
  obtain ⟨d1, d2, d3, d4⟩ := dnR_p h0 b.toNat
  obtain ⟨u1, u2, u3, u4⟩ := upR_p h5 (255 - b).toNat b (by omega)
  have t1 := hT (dnR T b.toNat); have t2 := hT (upR T (255 - b).toNat b)
  unfold tcV
  split
  · omega
  · have h1 : T b = -1 := d4 b (by omega) (by omega)
    have h2 : upR T (255 - b).toNat b ≠ b := fun q => u1 (by rw [q]; exact h1)
    exact lin_b (by omega) (by omega) (by omega) (by omega)

set_option maxHeartbeats 4000000 in
set_option maxRecDepth 100000 in
theorem c_X5_gain (l : Launch) (G : zG) (md ma mb mc mt m1 m2 m3 m4 m5 m6 m7 : Nat) (th w h cnt most rch tl nc : Int) (M Y C T CA CB CN CG CS Z K : Int → Int) (v x : Int) (hm : mdOK w h cnt most rch tl nc M Y C T CN CG CS K) (hv : -2147483648 ≤ v ∧ v ≤ 2147483647) (hx : -2147483648 ≤ x ∧ x ≤ 2147483647) : zWv l yX5_gain cX5_gain 3 { frames := 1, cells := 0, slots := 0, locals := 20 } G [.ref md, .int (zI (v)), .int (zI (x))] (mdL G md ma mb mc mt m1 m2 m3 m4 m5 m6 m7 th w h cnt most rch tl nc M Y C T CA CB CN CG CS Z K) (S := Unit) (fun u => True) (fun u => mdL G md ma mb mc mt m1 m2 m3 m4 m5 m6 m7 (cGai v x (if T v = -1 ∧ tl = 12 then 1 else 0)) w h cnt most rch (if cGai v x (if T v = -1 ∧ tl = 12 then 1 else 0) = 0 then (tl + (if T v = -1 then 1 else 0)) else tl) nc M Y C (if cGai v x (if T v = -1 ∧ tl = 12 then 1 else 0) = 0 then zu T v x else T) CA CB CN CG CS Z K) := by
  intro sz
  refine Met.ofW (cc := cX5_gain) (maxL := 3) (ret := none) (by decide) rfl ?_
  intro p e s m args below meth c s₁ B hml hv
  obtain ⟨rfl, hsz, hP, hK, hD0⟩ := hv
  have hx := B.exec
  have hb := B.bytes
  have hr := B.returns
  have hT : ∀ w ∈ TB, w.before _ s = true := fun w h => atoms_spec (ws := Cond.code yX5_gain cX5_gain 3 none :: TB) B.pre w (List.mem_cons_of_mem _ h)
  have hown : s.vm.findClass RX5 = some m.cls := findClass_of_methodNamed B.named
  have hlocks := B.notSynchronized
  subst hsz
  have hD := hD0.self (sz := s.heap.size)
  generalize hAe : va_A (mdL G md ma mb mc mt m1 m2 m3 m4 m5 m6 m7 th w h cnt most rch tl nc M Y C T CA CB CN CG CS Z K) s.heap.size = A at hD ⊢
  have hA : ∀ q : Nat, s.heap.size ≤ q → A q := fun q h => by rw [← hAe]; exact Or.inr h
  have hS : va_S A s.heap s.heap [] := va_S.rf
  have hP : zP G (mdL G md ma mb mc mt m1 m2 m3 m4 m5 m6 m7 th w h cnt most rch tl nc M Y C T CA CB CN CG CS Z K) s.heap := hP
  have hD : va_D A (mdL G md ma mb mc mt m1 m2 m3 m4 m5 m6 m7 th w h cnt most rch tl nc M Y C T CA CB CN CG CS Z K) := hD
  have hl := lv_entry ([.ref md, .int (zI (v)), .int (zI (x))]) (n := 3) (Nat.le_of_ble_eq_true rfl)
  rw [lg_entry_eq]
  generalize (lg_sl ([.ref md, .int (zI (v)), .int (zI (x))]) ++ List.replicate (3 - (lg_sl ([.ref md, .int (zI (v)), .int (zI (x))])).length) Slot.unset).toArray = ls at hl ⊢
  have hl : lv_has ls 3 [(0, .ref md), (1, .int (zI (v))), (2, .int (zI (x)))] := hl
  obtain ⟨hw, hh, hcnt, hmost, hrch, hM, hY, hC, hTb, hT0, hT5, htl, hnc, hcl, hKb⟩ := id hm
  have hpt := md_pts hm
  have hPb : ∀ j, 0 ≤ PPf Y w (w * h) j ∧ PPf Y w (w * h) j ≤ 255 := fun j => hY _
  refine lv_aload_n hx hb dX5_gain_0 rfl (lv_at hl 0 rfl) ?_
  refine z_cutH (A := A) (H0 := s.heap) (G := G) (σ := Array Slot) (fun zq => F0 m 43 (zq) [.int (zI (cGai v x (if T v = -1 ∧ tl = 12 then 1 else 0))), .ref md]) (fun zq => (True) ∧ lv_has (zq) 3 [(0, .ref md), (1, .int (zI (v))), (2, .int (zI (x)))]) (fun zq => mdL G md ma mb mc mt m1 m2 m3 m4 m5 m6 m7 th w h cnt most rch tl nc M Y C T CA CB CN CG CS Z K) ?_ ?_
  · intro ls H locs hq hP hD hS
    obtain ⟨hJ, hl⟩ := hq
    try dsimp only at hJ hl hP hD ⊢
    have hP : zP G (mdL G md ma mb mc mt m1 m2 m3 m4 m5 m6 m7 th w h cnt most rch tl nc M Y C T CA CB CN CG CS Z K) H := hP
    have hD : va_D A (mdL G md ma mb mc mt m1 m2 m3 m4 m5 m6 m7 th w h cnt most rch tl nc M Y C T CA CB CN CG CS Z K) := hD
    obtain ⟨cd, ecd⟩ : ∃ z : Int, z = cGai v x (if T v = -1 ∧ tl = 12 then 1 else 0) := ⟨_, rfl⟩
    refine z_top cd ecd.symm ?_
    have hcd : 0 ≤ cd ∧ cd ≤ 2 := by rw [ecd]; unfold cGai; (repeat' split) <;> omega
    have hcz : cd = 0 → 0 ≤ v ∧ v ≤ 255 := fun h9 => by rw [ecd] at h9; revert h9; unfold cGai; (repeat' split) <;> omega
    refine pf_X5_62 (ws' := mdL G md ma mb mc mt m1 m2 m3 m4 m5 m6 m7 cd w h cnt most rch tl nc M Y C T CA CB CN CG CS Z K) hx hb hT hown hK hP hD hS 0 rfl (Nat.le_of_ble_eq_true rfl) rfl rfl rfl dX5_gain_43 (fun H locs hP hD hS => ?_)
    refine lv_aload_n hx hb dX5_gain_46 rfl (lv_at hl 0 rfl) ?_
    refine gf_X5_62 hx hb hT hown hK hP 0 rfl rfl dX5_gain_47 ?_
    refine z_if_ne (tgt := 84) hx hb dX5_gain_50 (by decide) (by omega) (fun h50 => ?_) (fun h50 => ?_)
    · skip
      have hQ : mdL G md ma mb mc mt m1 m2 m3 m4 m5 m6 m7 (cGai v x (if T v = -1 ∧ tl = 12 then 1 else 0)) w h cnt most rch (if cGai v x (if T v = -1 ∧ tl = 12 then 1 else 0) = 0 then (tl + (if T v = -1 then 1 else 0)) else tl) nc M Y C (if cGai v x (if T v = -1 ∧ tl = 12 then 1 else 0) = 0 then zu T v x else T) CA CB CN CG CS Z K = mdL G md ma mb mc mt m1 m2 m3 m4 m5 m6 m7 cd w h cnt most rch tl nc M Y C T CA CB CN CG CS Z K := by rw [← ecd] <;> (by_cases hc0 : cd = 0) <;> first | (exfalso; omega) | (simp only [if_pos hc0]; done) | (simp only [if_neg hc0]; done) | rfl
      exact z_wrv () hx hb hr hlocks hK (by rw [hQ]; exact hP) (by rw [hQ]; exact hD) hS (trivial) dX5_gain_84
    · skip
      have hk8 := hcz (by omega)
      have htv := hTb v
      refine lv_aload_n hx hb dX5_gain_53 rfl (lv_at hl 0 rfl) ?_
      refine lv_dup hx hb dX5_gain_54 rfl ?_
      refine gf_X5_32 hx hb hT hown hK hP 0 rfl rfl dX5_gain_55 ?_
      refine lv_aload_n hx hb dX5_gain_58 rfl (lv_at hl 0 rfl) ?_
      refine gf_X5_29 hx hb hT hown hK hP 0 rfl rfl dX5_gain_59 ?_
      refine lv_iload_n hx hb dX5_gain_62 rfl (lv_at hl 1 rfl) ?_
      refine z_iald hx hb hK hP 4 rfl (⟨by omega, by omega, by omega⟩) dX5_gain_63 ?_
      refine z_iconst hx hb dX5_gain_64 ?_
      refine z_icmp_ne (tgt := 72) hx hb dX5_gain_65 (by decide) (by omega) (by omega) (fun h65 => ?_) (fun h65 => ?_)
      · skip
        refine z_iconst hx hb dX5_gain_72 ?_
        refine z_iadd hx hb dX5_gain_73 ?_
        refine z_top ((tl + (if T v = -1 then 1 else 0))) (by split <;> omega) ?_
        refine pf_X5_32 (ws' := mdL G md ma mb mc mt m1 m2 m3 m4 m5 m6 m7 cd w h cnt most rch (tl + (if T v = -1 then 1 else 0)) nc M Y C T CA CB CN CG CS Z K) hx hb hT hown hK hP hD hS 0 rfl (Nat.le_of_ble_eq_true rfl) rfl rfl rfl dX5_gain_74 (fun H locs hP hD hS => ?_)
        refine lv_aload_n hx hb dX5_gain_77 rfl (lv_at hl 0 rfl) ?_
        refine gf_X5_29 hx hb hT hown hK hP 0 rfl rfl dX5_gain_78 ?_
        refine lv_iload_n hx hb dX5_gain_81 rfl (lv_at hl 1 rfl) ?_
        refine lv_iload_n hx hb dX5_gain_82 rfl (lv_at hl 2 rfl) ?_
        refine z_iast (ws' := mdL G md ma mb mc mt m1 m2 m3 m4 m5 m6 m7 cd w h cnt most rch (tl + (if T v = -1 then 1 else 0)) nc M Y C (zu T v x) CA CB CN CG CS Z K) hx hb hK hP hD hS 4 rfl (⟨by omega, by omega, by omega⟩) dX5_gain_83 rfl (fun H locs hP hD hS => ?_)
        have hQ : mdL G md ma mb mc mt m1 m2 m3 m4 m5 m6 m7 (cGai v x (if T v = -1 ∧ tl = 12 then 1 else 0)) w h cnt most rch (if cGai v x (if T v = -1 ∧ tl = 12 then 1 else 0) = 0 then (tl + (if T v = -1 then 1 else 0)) else tl) nc M Y C (if cGai v x (if T v = -1 ∧ tl = 12 then 1 else 0) = 0 then zu T v x else T) CA CB CN CG CS Z K = mdL G md ma mb mc mt m1 m2 m3 m4 m5 m6 m7 cd w h cnt most rch (tl + (if T v = -1 then 1 else 0)) nc M Y C (zu T v x) CA CB CN CG CS Z K := by rw [← ecd] <;> (by_cases hc0 : cd = 0) <;> first | (exfalso; omega) | (simp only [if_pos hc0]; done) | (simp only [if_neg hc0]; done) | rfl
        exact z_wrv () hx hb hr hlocks hK (by rw [hQ]; exact hP) (by rw [hQ]; exact hD) hS (trivial) dX5_gain_84
      · skip
        refine z_iconst hx hb dX5_gain_68 ?_
        refine z_goto (tgt := 73) hx hb dX5_gain_69 (by decide) ?_
        refine z_iadd hx hb dX5_gain_73 ?_
        refine z_top ((tl + (if T v = -1 then 1 else 0))) (by split <;> omega) ?_
        refine pf_X5_32 (ws' := mdL G md ma mb mc mt m1 m2 m3 m4 m5 m6 m7 cd w h cnt most rch (tl + (if T v = -1 then 1 else 0)) nc M Y C T CA CB CN CG CS Z K) hx hb hT hown hK hP hD hS 0 rfl (Nat.le_of_ble_eq_true rfl) rfl rfl rfl dX5_gain_74 (fun H locs hP hD hS => ?_)
        refine lv_aload_n hx hb dX5_gain_77 rfl (lv_at hl 0 rfl) ?_
        refine gf_X5_29 hx hb hT hown hK hP 0 rfl rfl dX5_gain_78 ?_
        refine lv_iload_n hx hb dX5_gain_81 rfl (lv_at hl 1 rfl) ?_
        refine lv_iload_n hx hb dX5_gain_82 rfl (lv_at hl 2 rfl) ?_
        refine z_iast (ws' := mdL G md ma mb mc mt m1 m2 m3 m4 m5 m6 m7 cd w h cnt most rch (tl + (if T v = -1 then 1 else 0)) nc M Y C (zu T v x) CA CB CN CG CS Z K) hx hb hK hP hD hS 4 rfl (⟨by omega, by omega, by omega⟩) dX5_gain_83 rfl (fun H locs hP hD hS => ?_)
        have hQ : mdL G md ma mb mc mt m1 m2 m3 m4 m5 m6 m7 (cGai v x (if T v = -1 ∧ tl = 12 then 1 else 0)) w h cnt most rch (if cGai v x (if T v = -1 ∧ tl = 12 then 1 else 0) = 0 then (tl + (if T v = -1 then 1 else 0)) else tl) nc M Y C (if cGai v x (if T v = -1 ∧ tl = 12 then 1 else 0) = 0 then zu T v x else T) CA CB CN CG CS Z K = mdL G md ma mb mc mt m1 m2 m3 m4 m5 m6 m7 cd w h cnt most rch (tl + (if T v = -1 then 1 else 0)) nc M Y C (zu T v x) CA CB CN CG CS Z K := by rw [← ecd] <;> (by_cases hc0 : cd = 0) <;> first | (exfalso; omega) | (simp only [if_pos hc0]; done) | (simp only [if_neg hc0]; done) | rfl
        exact z_wrv () hx hb hr hlocks hK (by rw [hQ]; exact hP) (by rw [hQ]; exact hD) hS (trivial) dX5_gain_84
  intro J43
  refine lv_iload_n hx hb dX5_gain_1 rfl (lv_at hl 1 rfl) ?_
  refine z_callS (G := G) (As := [.int (zI (v))]) (rest := [.ref md]) hx hb hml hown hT hK (c_X5_isByte l G (v) (by omega)) kc_X5_65 ⟨Nat.le_of_ble_eq_true rfl, Nat.le_of_ble_eq_true rfl⟩ ⟨rfl, rfl⟩ ⟨Nat.le_of_ble_eq_true rfl, Nat.le_of_ble_eq_true rfl⟩ (hP.sub [] rfl) rfl hl.1 rfl (Nat.le_of_ble_eq_true rfl) dX5_gain_2 ?_
  refine z_if_eq (tgt := 15) hx hb dX5_gain_5 (by decide) (bI_rng _) (fun h5 => ?_) (fun h5 => ?_)
  · skip
    have h5 := bI_f.mp h5
    simp only [Bool.and_eq_true, Bool.and_eq_false_iff, Bool.or_eq_true, Bool.or_eq_false_iff, decide_eq_true_eq, decide_eq_false_iff_not] at h5
    refine z_iconst hx hb dX5_gain_15 ?_
    refine z_goto (tgt := 43) hx hb dX5_gain_16 (by decide) ?_
    refine z_top (cGai v x (if T v = -1 ∧ tl = 12 then 1 else 0)) (by unfold cGai; (repeat' split) <;> omega) ?_
    exact J43 (ls) _ _ ⟨trivial, lv_sub hl [0, 1, 2] rfl⟩ hP hD hS
  · skip
    have h5 := bI_t.mp h5
    simp only [Bool.and_eq_true, Bool.and_eq_false_iff, Bool.or_eq_true, Bool.or_eq_false_iff, decide_eq_true_eq, decide_eq_false_iff_not] at h5
    refine lv_iload_n hx hb dX5_gain_8 rfl (lv_at hl 2 rfl) ?_
    refine z_callS (G := G) (As := [.int (zI (x))]) (rest := [.ref md]) hx hb hml hown hT hK (c_X5_isByte l G (x) (by omega)) kc_X5_65 ⟨Nat.le_of_ble_eq_true rfl, Nat.le_of_ble_eq_true rfl⟩ ⟨rfl, rfl⟩ ⟨Nat.le_of_ble_eq_true rfl, Nat.le_of_ble_eq_true rfl⟩ (hP.sub [] rfl) rfl hl.1 rfl (Nat.le_of_ble_eq_true rfl) dX5_gain_9 ?_
    refine z_if_ne (tgt := 19) hx hb dX5_gain_12 (by decide) (bI_rng _) (fun h12 => ?_) (fun h12 => ?_)
    · skip
      have h12 := bI_t.mp h12
      simp only [Bool.and_eq_true, Bool.and_eq_false_iff, Bool.or_eq_true, Bool.or_eq_false_iff, decide_eq_true_eq, decide_eq_false_iff_not] at h12
      have htv := hTb v
      refine lv_aload_n hx hb dX5_gain_19 rfl (lv_at hl 0 rfl) ?_
      refine gf_X5_29 hx hb hT hown hK hP 0 rfl rfl dX5_gain_20 ?_
      refine lv_iload_n hx hb dX5_gain_23 rfl (lv_at hl 1 rfl) ?_
      refine z_iald hx hb hK hP 4 rfl (⟨by omega, by omega, by omega⟩) dX5_gain_24 ?_
      refine z_iconst hx hb dX5_gain_25 ?_
      refine z_icmp_ne (tgt := 42) hx hb dX5_gain_26 (by decide) (by omega) (by omega) (fun h26 => ?_) (fun h26 => ?_)
      · skip
        refine z_iconst hx hb dX5_gain_42 ?_
        refine z_top (cGai v x (if T v = -1 ∧ tl = 12 then 1 else 0)) (by unfold cGai; (repeat' split) <;> omega) ?_
        exact J43 (ls) _ _ ⟨trivial, lv_sub hl [0, 1, 2] rfl⟩ hP hD hS
      · skip
        refine lv_aload_n hx hb dX5_gain_29 rfl (lv_at hl 0 rfl) ?_
        refine gf_X5_32 hx hb hT hown hK hP 0 rfl rfl dX5_gain_30 ?_
        refine z_bipush hx hb dX5_gain_33 (by decide +kernel) ?_
        refine z_icmp_ne (tgt := 42) hx hb dX5_gain_35 (by decide) (by omega) (by omega) (fun h35 => ?_) (fun h35 => ?_)
        · skip
          refine z_iconst hx hb dX5_gain_42 ?_
          refine z_top (cGai v x (if T v = -1 ∧ tl = 12 then 1 else 0)) (by unfold cGai; (repeat' split) <;> omega) ?_
          exact J43 (ls) _ _ ⟨trivial, lv_sub hl [0, 1, 2] rfl⟩ hP hD hS
        · skip
          refine z_iconst hx hb dX5_gain_38 ?_
          refine z_goto (tgt := 43) hx hb dX5_gain_39 (by decide) ?_
          refine z_top (cGai v x (if T v = -1 ∧ tl = 12 then 1 else 0)) (by unfold cGai; (repeat' split) <;> omega) ?_
          exact J43 (ls) _ _ ⟨trivial, lv_sub hl [0, 1, 2] rfl⟩ hP hD hS
    · skip
      have h12 := bI_f.mp h12
      simp only [Bool.and_eq_true, Bool.and_eq_false_iff, Bool.or_eq_true, Bool.or_eq_false_iff, decide_eq_true_eq, decide_eq_false_iff_not] at h12
      refine z_iconst hx hb dX5_gain_15 ?_
      refine z_goto (tgt := 43) hx hb dX5_gain_16 (by decide) ?_
      refine z_top (cGai v x (if T v = -1 ∧ tl = 12 then 1 else 0)) (by unfold cGai; (repeat' split) <;> omega) ?_
      exact J43 (ls) _ _ ⟨trivial, lv_sub hl [0, 1, 2] rfl⟩ hP hD hS

set_option maxHeartbeats 4000000 in
set_option maxRecDepth 100000 in
theorem c_X5_plate (l : Launch) (G : zG) (md ma mb mc mt m1 m2 m3 m4 m5 m6 m7 : Nat) (th w h cnt most rch tl nc : Int) (M Y C T CA CB CN CG CS Z K : Int → Int) (k x y way : Int) (hm : mdOK w h cnt most rch tl nc M Y C T CN CG CS K) (hk : -2147483648 ≤ k ∧ k ≤ 2147483647) (hx : -2147483648 ≤ x ∧ x ≤ 2147483647) (hy : -2147483648 ≤ y ∧ y ≤ 2147483647) (hway : -2147483648 ≤ way ∧ way ≤ 2147483647) : zWi l yX5_plate cX5_plate 6 (some .int) { frames := 5, cells := 0, slots := 0, locals := 128 } G [.ref md, .int (zI (k)), .int (zI (x)), .int (zI (y)), .int (zI (way))] (mdL G md ma mb mc mt m1 m2 m3 m4 m5 m6 m7 th w h cnt most rch tl nc M Y C T CA CB CN CG CS Z K) (S := Unit) (fun u => if cPla k x y way cnt w h = 0 then (if way < 2 then (pW (PPf Y w (w * h)) (w * h) k (x + w * y) (if way % 2 = 1 then lendV w h rch x y (cdB M (PPf Y w (w * h)) (w * h) cnt w (x + w * y)) else -1)) else tcV T (pW (PPf Y w (w * h)) (w * h) k (x + w * y) (if way % 2 = 1 then lendV w h rch x y (cdB M (PPf Y w (w * h)) (w * h) cnt w (x + w * y)) else -1))) else 0) (fun u => True) (fun u => mdL G md ma mb mc mt m1 m2 m3 m4 m5 m6 m7 (cPla k x y way cnt w h) w h cnt most rch tl nc M Y C T CA CB CN CG CS Z K) := by
  intro sz
  refine Met.ofW (cc := cX5_plate) (maxL := 6) (ret := (some .int)) (by decide) rfl ?_
  intro p e s m args below meth c s₁ B hml hv
  obtain ⟨rfl, hsz, hP, hK, hD0⟩ := hv
  have hx := B.exec
  have hb := B.bytes
  have hr := B.returns
  have hT : ∀ w ∈ TB, w.before _ s = true := fun w h => atoms_spec (ws := Cond.code yX5_plate cX5_plate 6 (some .int) :: TB) B.pre w (List.mem_cons_of_mem _ h)
  have hown : s.vm.findClass RX5 = some m.cls := findClass_of_methodNamed B.named
  have hlocks := B.notSynchronized
  subst hsz
  have hD := hD0.self (sz := s.heap.size)
  generalize hAe : va_A (mdL G md ma mb mc mt m1 m2 m3 m4 m5 m6 m7 th w h cnt most rch tl nc M Y C T CA CB CN CG CS Z K) s.heap.size = A at hD ⊢
  have hA : ∀ q : Nat, s.heap.size ≤ q → A q := fun q h => by rw [← hAe]; exact Or.inr h
  have hS : va_S A s.heap s.heap [] := va_S.rf
  have hP : zP G (mdL G md ma mb mc mt m1 m2 m3 m4 m5 m6 m7 th w h cnt most rch tl nc M Y C T CA CB CN CG CS Z K) s.heap := hP
  have hD : va_D A (mdL G md ma mb mc mt m1 m2 m3 m4 m5 m6 m7 th w h cnt most rch tl nc M Y C T CA CB CN CG CS Z K) := hD
  have hl := lv_entry ([.ref md, .int (zI (k)), .int (zI (x)), .int (zI (y)), .int (zI (way))]) (n := 6) (Nat.le_of_ble_eq_true rfl)
  rw [lg_entry_eq]
  generalize (lg_sl ([.ref md, .int (zI (k)), .int (zI (x)), .int (zI (y)), .int (zI (way))]) ++ List.replicate (6 - (lg_sl ([.ref md, .int (zI (k)), .int (zI (x)), .int (zI (y)), .int (zI (way))])).length) Slot.unset).toArray = ls at hl ⊢
  have hl : lv_has ls 6 [(0, .ref md), (1, .int (zI (k))), (2, .int (zI (x))), (3, .int (zI (y))), (4, .int (zI (way)))] := hl
  obtain ⟨hw, hh, hcnt, hmost, hrch, hM, hY, hC, hTb, hT0, hT5, htl, hnc, hcl, hKb⟩ := id hm
  have hpt := md_pts hm
  have hPb : ∀ j, 0 ≤ PPf Y w (w * h) j ∧ PPf Y w (w * h) j ≤ 255 := fun j => hY _
  refine lv_aload_n hx hb dX5_plate_0 rfl (lv_at hl 0 rfl) ?_
  refine z_cutH (A := A) (H0 := s.heap) (G := G) (σ := Array Slot) (fun zq => F0 m 38 (zq) [.int (zI (cPla k x y way cnt w h)), .ref md]) (fun zq => (True) ∧ lv_has (zq) 6 [(0, .ref md), (1, .int (zI (k))), (2, .int (zI (x))), (3, .int (zI (y))), (4, .int (zI (way)))]) (fun zq => mdL G md ma mb mc mt m1 m2 m3 m4 m5 m6 m7 th w h cnt most rch tl nc M Y C T CA CB CN CG CS Z K) ?_ ?_
  · intro ls H locs hq hP hD hS
    obtain ⟨hJ, hl⟩ := hq
    try dsimp only at hJ hl hP hD ⊢
    have hP : zP G (mdL G md ma mb mc mt m1 m2 m3 m4 m5 m6 m7 th w h cnt most rch tl nc M Y C T CA CB CN CG CS Z K) H := hP
    have hD : va_D A (mdL G md ma mb mc mt m1 m2 m3 m4 m5 m6 m7 th w h cnt most rch tl nc M Y C T CA CB CN CG CS Z K) := hD
    obtain ⟨cd, ecd⟩ : ∃ z : Int, z = cPla k x y way cnt w h := ⟨_, rfl⟩
    refine z_top cd ecd.symm ?_
    have hcd : 0 ≤ cd ∧ cd ≤ 2 := by rw [ecd]; unfold cPla; (repeat' split) <;> omega
    have hcz : cd = 0 → (0 ≤ k ∧ k < cnt) ∧ (0 ≤ x ∧ x < w) ∧ (0 ≤ y ∧ y < h) ∧ (0 ≤ way ∧ way ≤ 3) := fun h9 => by rw [ecd] at h9; revert h9; unfold cPla; (repeat' split) <;> omega
    refine pf_X5_62 (ws' := mdL G md ma mb mc mt m1 m2 m3 m4 m5 m6 m7 cd w h cnt most rch tl nc M Y C T CA CB CN CG CS Z K) hx hb hT hown hK hP hD hS 0 rfl (Nat.le_of_ble_eq_true rfl) rfl rfl rfl dX5_plate_38 (fun H locs hP hD hS => ?_)
    refine lv_aload_n hx hb dX5_plate_41 rfl (lv_at hl 0 rfl) ?_
    refine gf_X5_62 hx hb hT hown hK hP 0 rfl rfl dX5_plate_42 ?_
    refine z_if_le (tgt := 50) hx hb dX5_plate_45 (by decide) (by omega) (fun h45 => ?_) (fun h45 => ?_)
    · skip
      have hk8 := hcz (by omega)
      have hlb := lendV_b (w := w) (h := h) (rch := rch) (x := x) (y := y) (cdB M (PPf Y w (w * h)) (w * h) cnt w (x + w * y)) (by omega) (by omega)
      have hpw := pW_b hPb (w * h) k (x + w * y) (if way % 2 = 1 then lendV w h rch x y (cdB M (PPf Y w (w * h)) (w * h) cnt w (x + w * y)) else -1)
      refine z_cutH (A := A) (H0 := s.heap) (G := G) (σ := Array Slot) (fun zq => F0 m 72 (zq) [.int (zI ((if way % 2 = 1 then lendV w h rch x y (cdB M (PPf Y w (w * h)) (w * h) cnt w (x + w * y)) else -1))), .int (zI (k)), .int (zI (y)), .int (zI (x)), .ref md]) (fun zq => (True) ∧ lv_has (zq) 6 [(0, .ref md), (1, .int (zI (k))), (2, .int (zI (x))), (3, .int (zI (y))), (4, .int (zI (way)))]) (fun zq => mdL G md ma mb mc mt m1 m2 m3 m4 m5 m6 m7 cd w h cnt most rch tl nc M Y C T CA CB CN CG CS Z K) ?_ ?_
      · intro ls H locs hq hP hD hS
        obtain ⟨hJ, hl⟩ := hq
        try dsimp only at hJ hl hP hD ⊢
        have hP : zP G (mdL G md ma mb mc mt m1 m2 m3 m4 m5 m6 m7 cd w h cnt most rch tl nc M Y C T CA CB CN CG CS Z K) H := hP
        have hD : va_D A (mdL G md ma mb mc mt m1 m2 m3 m4 m5 m6 m7 cd w h cnt most rch tl nc M Y C T CA CB CN CG CS Z K) := hD
        have hln : -1 ≤ (if way % 2 = 1 then lendV w h rch x y (cdB M (PPf Y w (w * h)) (w * h) cnt w (x + w * y)) else -1) ∧ (if way % 2 = 1 then lendV w h rch x y (cdB M (PPf Y w (w * h)) (w * h) cnt w (x + w * y)) else -1) < w * h := by split <;> omega
        refine z_callV (q0 := 0) (G := G) (As := [.int (zI (x)), .int (zI (y)), .int (zI (k)), .int (zI ((if way % 2 = 1 then lendV w h rch x y (cdB M (PPf Y w (w * h)) (w * h) cnt w (x + w * y)) else -1)))]) (rest := []) hx hb hml hown hT hK (c_X5_inkOf l G md ma mb mc mt m1 m2 m3 m4 m5 m6 m7 cd w h cnt most rch tl nc M Y C T CA CB CN CG CS Z K (x) (y) (k) ((if way % 2 = 1 then lendV w h rch x y (cdB M (PPf Y w (w * h)) (w * h) cnt w (x + w * y)) else -1)) hm (by omega) (by omega) (by omega) (by omega)) kc_X5_92 ⟨Nat.le_of_ble_eq_true rfl, Nat.le_of_ble_eq_true rfl⟩ ⟨rfl, rfl⟩ ⟨Nat.le_of_ble_eq_true rfl, Nat.le_of_ble_eq_true rfl⟩ hP rfl rfl rfl rfl hl.1 rfl (Nat.le_of_ble_eq_true rfl) dX5_plate_72 ?_
        refine lv_istore (lv' := [(5, .int (zI ((pW (PPf Y w (w * h)) (w * h) k (x + w * y) (if way % 2 = 1 then lendV w h rch x y (cdB M (PPf Y w (w * h)) (w * h) cnt w (x + w * y)) else -1))))), (0, .ref md), (1, .int (zI (k))), (2, .int (zI (x))), (3, .int (zI (y))), (4, .int (zI (way)))]) hx hb dX5_plate_75 hl (by decide) rfl (fun ls hl => ?_)
        refine lv_iload hx hb dX5_plate_77 (lv_at hl 5 rfl) ?_
        refine z_iconst hx hb dX5_plate_79 ?_
        refine z_icmp_ge (tgt := 88) hx hb dX5_plate_80 (by decide) (by omega) (by omega) (fun h80 => ?_) (fun h80 => ?_)
        · skip
          have hw2 : ¬ way < 2 := by omega
          refine lv_aload_n hx hb dX5_plate_88 rfl (lv_at hl 1 rfl) ?_
          refine lv_iload hx hb dX5_plate_89 (lv_at hl 0 rfl) ?_
          refine z_callV (q0 := 0) (G := G) (As := [.int (zI ((pW (PPf Y w (w * h)) (w * h) k (x + w * y) (if way % 2 = 1 then lendV w h rch x y (cdB M (PPf Y w (w * h)) (w * h) cnt w (x + w * y)) else -1))))]) (rest := []) hx hb hml hown hT hK (c_X5_curve l G md ma mb mc mt m1 m2 m3 m4 m5 m6 m7 cd w h cnt most rch tl nc M Y C T CA CB CN CG CS Z K ((pW (PPf Y w (w * h)) (w * h) k (x + w * y) (if way % 2 = 1 then lendV w h rch x y (cdB M (PPf Y w (w * h)) (w * h) cnt w (x + w * y)) else -1))) hm (by omega)) kc_X5_113 ⟨Nat.le_of_ble_eq_true rfl, Nat.le_of_ble_eq_true rfl⟩ ⟨rfl, rfl⟩ ⟨Nat.le_of_ble_eq_true rfl, Nat.le_of_ble_eq_true rfl⟩ hP rfl rfl rfl rfl hl.1 rfl (Nat.le_of_ble_eq_true rfl) dX5_plate_91 ?_
          have hQ : mdL G md ma mb mc mt m1 m2 m3 m4 m5 m6 m7 (cPla k x y way cnt w h) w h cnt most rch tl nc M Y C T CA CB CN CG CS Z K = mdL G md ma mb mc mt m1 m2 m3 m4 m5 m6 m7 cd w h cnt most rch tl nc M Y C T CA CB CN CG CS Z K := by rw [← ecd] <;> (by_cases hc0 : cd = 0) <;> first | (exfalso; omega) | (simp only [if_pos hc0]; done) | (simp only [if_neg hc0]; done) | rfl
          exact z_wri () hx hb hr hlocks hK (by rw [hQ]; exact hP) (by rw [hQ]; exact hD) hS (trivial) (by rw [← ecd, if_pos (show cd = 0 by omega)]; first | exact (if_pos hw2).symm | exact (if_neg hw2).symm) dX5_plate_94
        · skip
          have hw2 : way < 2 := by omega
          refine lv_iload hx hb dX5_plate_83 (lv_at hl 0 rfl) ?_
          refine z_goto (tgt := 94) hx hb dX5_plate_85 (by decide) ?_
          have hQ : mdL G md ma mb mc mt m1 m2 m3 m4 m5 m6 m7 (cPla k x y way cnt w h) w h cnt most rch tl nc M Y C T CA CB CN CG CS Z K = mdL G md ma mb mc mt m1 m2 m3 m4 m5 m6 m7 cd w h cnt most rch tl nc M Y C T CA CB CN CG CS Z K := by rw [← ecd] <;> (by_cases hc0 : cd = 0) <;> first | (exfalso; omega) | (simp only [if_pos hc0]; done) | (simp only [if_neg hc0]; done) | rfl
          exact z_wri () hx hb hr hlocks hK (by rw [hQ]; exact hP) (by rw [hQ]; exact hD) hS (trivial) (by rw [← ecd, if_pos (show cd = 0 by omega)]; first | exact (if_pos hw2).symm | exact (if_neg hw2).symm) dX5_plate_94
      intro J72
      refine lv_aload_n hx hb dX5_plate_50 rfl (lv_at hl 0 rfl) ?_
      refine lv_iload_n hx hb dX5_plate_51 rfl (lv_at hl 2 rfl) ?_
      refine lv_iload_n hx hb dX5_plate_52 rfl (lv_at hl 3 rfl) ?_
      refine lv_iload_n hx hb dX5_plate_53 rfl (lv_at hl 1 rfl) ?_
      refine lv_iload hx hb dX5_plate_54 (lv_at hl 4 rfl) ?_
      refine z_iconst hx hb dX5_plate_56 ?_
      refine z_irem hx hb dX5_plate_57 (by omega) (by omega) ?_
      refine z_iconst hx hb dX5_plate_58 ?_
      refine z_icmp_ne (tgt := 71) hx hb dX5_plate_59 (by decide) (by omega) (by omega) (fun h59 => ?_) (fun h59 => ?_)
      · skip
        refine z_iconst hx hb dX5_plate_71 ?_
        refine z_top (if way % 2 = 1 then lendV w h rch x y (cdB M (PPf Y w (w * h)) (w * h) cnt w (x + w * y)) else -1) (by split <;> first | rfl | omega) ?_
        exact J72 (ls) _ _ ⟨trivial, lv_sub hl [0, 1, 2, 3, 4] rfl⟩ hP hD hS
      · skip
        refine lv_aload_n hx hb dX5_plate_62 rfl (lv_at hl 0 rfl) ?_
        refine lv_iload_n hx hb dX5_plate_63 rfl (lv_at hl 2 rfl) ?_
        refine lv_iload_n hx hb dX5_plate_64 rfl (lv_at hl 3 rfl) ?_
        refine z_callV (q0 := 0) (G := G) (As := [.int (zI (x)), .int (zI (y))]) (rest := [.int (zI (k)), .int (zI (y)), .int (zI (x)), .ref md]) hx hb hml hown hT hK (c_X5_lenderOf l G md ma mb mc mt m1 m2 m3 m4 m5 m6 m7 cd w h cnt most rch tl nc M Y C T CA CB CN CG CS Z K (x) (y) hm (by omega) (by omega)) kc_X5_110 ⟨Nat.le_of_ble_eq_true rfl, Nat.le_of_ble_eq_true rfl⟩ ⟨rfl, rfl⟩ ⟨Nat.le_of_ble_eq_true rfl, Nat.le_of_ble_eq_true rfl⟩ hP rfl rfl rfl rfl hl.1 rfl (Nat.le_of_ble_eq_true rfl) dX5_plate_65 ?_
        refine z_goto (tgt := 72) hx hb dX5_plate_68 (by decide) ?_
        refine z_top (if way % 2 = 1 then lendV w h rch x y (cdB M (PPf Y w (w * h)) (w * h) cnt w (x + w * y)) else -1) (by split <;> first | rfl | omega) ?_
        exact J72 (ls) _ _ ⟨trivial, lv_sub hl [0, 1, 2, 3, 4] rfl⟩ hP hD hS
    · skip
      refine z_iconst hx hb dX5_plate_48 ?_
      have hQ : mdL G md ma mb mc mt m1 m2 m3 m4 m5 m6 m7 (cPla k x y way cnt w h) w h cnt most rch tl nc M Y C T CA CB CN CG CS Z K = mdL G md ma mb mc mt m1 m2 m3 m4 m5 m6 m7 cd w h cnt most rch tl nc M Y C T CA CB CN CG CS Z K := by rw [← ecd] <;> (by_cases hc0 : cd = 0) <;> first | (exfalso; omega) | (simp only [if_pos hc0]; done) | (simp only [if_neg hc0]; done) | rfl
      exact z_wri () hx hb hr hlocks hK (by rw [hQ]; exact hP) (by rw [hQ]; exact hD) hS (trivial) (by rw [← ecd] <;> (by_cases hc0 : cd = 0) <;> first | (exfalso; omega) | (rw [if_pos hc0]; done) | (rw [if_neg hc0]; done)) dX5_plate_49
  intro J38
  refine lv_iload hx hb dX5_plate_1 (lv_at hl 4 rfl) ?_
  refine z_if_lt (tgt := 12) hx hb dX5_plate_3 (by decide) (by omega) (fun h3 => ?_) (fun h3 => ?_)
  · skip
    refine z_iconst hx hb dX5_plate_12 ?_
    refine z_goto (tgt := 38) hx hb dX5_plate_13 (by decide) ?_
    refine z_top (cPla k x y way cnt w h) (by unfold cPla; (repeat' split) <;> omega) ?_
    exact J38 (ls) _ _ ⟨trivial, lv_sub hl [0, 1, 2, 3, 4] rfl⟩ hP hD hS
  · skip
    refine lv_iload hx hb dX5_plate_6 (lv_at hl 4 rfl) ?_
    refine z_iconst hx hb dX5_plate_8 ?_
    refine z_icmp_le (tgt := 16) hx hb dX5_plate_9 (by decide) (by omega) (by omega) (fun h9 => ?_) (fun h9 => ?_)
    · skip
      refine lv_aload_n hx hb dX5_plate_16 rfl (lv_at hl 0 rfl) ?_
      refine lv_iload_n hx hb dX5_plate_17 rfl (lv_at hl 1 rfl) ?_
      refine z_callV (q0 := 0) (G := G) (As := [.int (zI (k))]) (rest := [.ref md]) hx hb hml hown hT hK (c_X5_isInk l G md ma mb mc mt m1 m2 m3 m4 m5 m6 m7 th w h cnt most rch tl nc M Y C T CA CB CN CG CS Z K (k) hm (by omega)) kc_X5_69 ⟨Nat.le_of_ble_eq_true rfl, Nat.le_of_ble_eq_true rfl⟩ ⟨rfl, rfl⟩ ⟨Nat.le_of_ble_eq_true rfl, Nat.le_of_ble_eq_true rfl⟩ hP rfl rfl rfl rfl hl.1 rfl (Nat.le_of_ble_eq_true rfl) dX5_plate_18 ?_
      refine z_if_eq (tgt := 33) hx hb dX5_plate_21 (by decide) (bI_rng _) (fun h21 => ?_) (fun h21 => ?_)
      · skip
        have h21 := bI_f.mp h21
        simp only [Bool.and_eq_true, Bool.and_eq_false_iff, Bool.or_eq_true, Bool.or_eq_false_iff, decide_eq_true_eq, decide_eq_false_iff_not] at h21
        refine z_iconst hx hb dX5_plate_33 ?_
        refine z_goto (tgt := 38) hx hb dX5_plate_34 (by decide) ?_
        refine z_top (cPla k x y way cnt w h) (by unfold cPla; (repeat' split) <;> omega) ?_
        exact J38 (ls) _ _ ⟨trivial, lv_sub hl [0, 1, 2, 3, 4] rfl⟩ hP hD hS
      · skip
        have h21 := bI_t.mp h21
        simp only [Bool.and_eq_true, Bool.and_eq_false_iff, Bool.or_eq_true, Bool.or_eq_false_iff, decide_eq_true_eq, decide_eq_false_iff_not] at h21
        refine lv_aload_n hx hb dX5_plate_24 rfl (lv_at hl 0 rfl) ?_
        refine lv_iload_n hx hb dX5_plate_25 rfl (lv_at hl 2 rfl) ?_
        refine lv_iload_n hx hb dX5_plate_26 rfl (lv_at hl 3 rfl) ?_
        refine z_callV (q0 := 0) (G := G) (As := [.int (zI (x)), .int (zI (y))]) (rest := [.ref md]) hx hb hml hown hT hK (c_X5_isPoint l G md ma mb mc mt m1 m2 m3 m4 m5 m6 m7 th w h cnt most rch tl nc M Y C T CA CB CN CG CS Z K (x) (y) hm (by omega) (by omega)) kc_X5_106 ⟨Nat.le_of_ble_eq_true rfl, Nat.le_of_ble_eq_true rfl⟩ ⟨rfl, rfl⟩ ⟨Nat.le_of_ble_eq_true rfl, Nat.le_of_ble_eq_true rfl⟩ hP rfl rfl rfl rfl hl.1 rfl (Nat.le_of_ble_eq_true rfl) dX5_plate_27 ?_
        refine z_if_ne (tgt := 37) hx hb dX5_plate_30 (by decide) (bI_rng _) (fun h30 => ?_) (fun h30 => ?_)
        · skip
          have h30 := bI_t.mp h30
          simp only [Bool.and_eq_true, Bool.and_eq_false_iff, Bool.or_eq_true, Bool.or_eq_false_iff, decide_eq_true_eq, decide_eq_false_iff_not] at h30
          refine z_iconst hx hb dX5_plate_37 ?_
          refine z_top (cPla k x y way cnt w h) (by unfold cPla; (repeat' split) <;> omega) ?_
          exact J38 (ls) _ _ ⟨trivial, lv_sub hl [0, 1, 2, 3, 4] rfl⟩ hP hD hS
        · skip
          have h30 := bI_f.mp h30
          simp only [Bool.and_eq_true, Bool.and_eq_false_iff, Bool.or_eq_true, Bool.or_eq_false_iff, decide_eq_true_eq, decide_eq_false_iff_not] at h30
          refine z_iconst hx hb dX5_plate_33 ?_
          refine z_goto (tgt := 38) hx hb dX5_plate_34 (by decide) ?_
          refine z_top (cPla k x y way cnt w h) (by unfold cPla; (repeat' split) <;> omega) ?_
          exact J38 (ls) _ _ ⟨trivial, lv_sub hl [0, 1, 2, 3, 4] rfl⟩ hP hD hS
    · skip
      refine z_iconst hx hb dX5_plate_12 ?_
      refine z_goto (tgt := 38) hx hb dX5_plate_13 (by decide) ?_
      refine z_top (cPla k x y way cnt w h) (by unfold cPla; (repeat' split) <;> omega) ?_
      exact J38 (ls) _ _ ⟨trivial, lv_sub hl [0, 1, 2, 3, 4] rfl⟩ hP hD hS

set_option maxHeartbeats 4000000 in
set_option maxRecDepth 100000 in
theorem c_X5_seen (l : Launch) (G : zG) (md ma mb mc mt m1 m2 m3 m4 m5 m6 m7 : Nat) (th w h cnt most rch tl nc : Int) (M Y C T CA CB CN CG CS Z K : Int → Int) (x y b tr : Int) (hm : mdOK w h cnt most rch tl nc M Y C T CN CG CS K) (hx : -2147483648 ≤ x ∧ x ≤ 2147483647) (hy : -2147483648 ≤ y ∧ y ≤ 2147483647) (hb : -2147483648 ≤ b ∧ b ≤ 2147483647) (htr : 0 ≤ tr ∧ tr ≤ 1) : zWi l yX5_seen cX5_seen 5 (some .int) { frames := 5, cells := 0, slots := 0, locals := 128 } G [.ref md, .int (zI (x)), .int (zI (y)), .int (zI (b)), .int (zI (tr))] (mdL G md ma mb mc mt m1 m2 m3 m4 m5 m6 m7 th w h cnt most rch tl nc M Y C T CA CB CN CG CS Z K) (S := Unit) (fun u => if cSee x y b w h = 0 then (bandV M (PPf Y w (w * h)) (w * h) cnt b (x + w * y) (if tr = 0 then -1 else lendV w h rch x y (cdB M (PPf Y w (w * h)) (w * h) cnt w (x + w * y)))) else 0) (fun u => True) (fun u => mdL G md ma mb mc mt m1 m2 m3 m4 m5 m6 m7 (cSee x y b w h) w h cnt most rch tl nc M Y C T CA CB CN CG CS Z K) := by
  intro sz
  refine Met.ofW (cc := cX5_seen) (maxL := 5) (ret := (some .int)) (by decide) rfl ?_
  intro p e s m args below meth c s₁ B hml hv
  obtain ⟨rfl, hsz, hP, hK, hD0⟩ := hv
  have hx := B.exec
  have hb := B.bytes
  have hr := B.returns
  have hT : ∀ w ∈ TB, w.before _ s = true := fun w h => atoms_spec (ws := Cond.code yX5_seen cX5_seen 5 (some .int) :: TB) B.pre w (List.mem_cons_of_mem _ h)
  have hown : s.vm.findClass RX5 = some m.cls := findClass_of_methodNamed B.named
  have hlocks := B.notSynchronized
  subst hsz
  have hD := hD0.self (sz := s.heap.size)
  generalize hAe : va_A (mdL G md ma mb mc mt m1 m2 m3 m4 m5 m6 m7 th w h cnt most rch tl nc M Y C T CA CB CN CG CS Z K) s.heap.size = A at hD ⊢
  have hA : ∀ q : Nat, s.heap.size ≤ q → A q := fun q h => by rw [← hAe]; exact Or.inr h
  have hS : va_S A s.heap s.heap [] := va_S.rf
  have hP : zP G (mdL G md ma mb mc mt m1 m2 m3 m4 m5 m6 m7 th w h cnt most rch tl nc M Y C T CA CB CN CG CS Z K) s.heap := hP
  have hD : va_D A (mdL G md ma mb mc mt m1 m2 m3 m4 m5 m6 m7 th w h cnt most rch tl nc M Y C T CA CB CN CG CS Z K) := hD
  have hl := lv_entry ([.ref md, .int (zI (x)), .int (zI (y)), .int (zI (b)), .int (zI (tr))]) (n := 5) (Nat.le_of_ble_eq_true rfl)
  rw [lg_entry_eq]
  generalize (lg_sl ([.ref md, .int (zI (x)), .int (zI (y)), .int (zI (b)), .int (zI (tr))]) ++ List.replicate (5 - (lg_sl ([.ref md, .int (zI (x)), .int (zI (y)), .int (zI (b)), .int (zI (tr))])).length) Slot.unset).toArray = ls at hl ⊢
  have hl : lv_has ls 5 [(0, .ref md), (1, .int (zI (x))), (2, .int (zI (y))), (3, .int (zI (b))), (4, .int (zI (tr)))] := hl
  obtain ⟨hw, hh, hcnt, hmost, hrch, hM, hY, hC, hTb, hT0, hT5, htl, hnc, hcl, hKb⟩ := id hm
  have hpt := md_pts hm
  have hPb : ∀ j, 0 ≤ PPf Y w (w * h) j ∧ PPf Y w (w * h) j ≤ 255 := fun j => hY _
  refine lv_aload_n hx hb dX5_seen_0 rfl (lv_at hl 0 rfl) ?_
  refine z_cutH (A := A) (H0 := s.heap) (G := G) (σ := Array Slot) (fun zq => F0 m 24 (zq) [.int (zI (cSee x y b w h)), .ref md]) (fun zq => (True) ∧ lv_has (zq) 5 [(0, .ref md), (1, .int (zI (x))), (2, .int (zI (y))), (3, .int (zI (b))), (4, .int (zI (tr)))]) (fun zq => mdL G md ma mb mc mt m1 m2 m3 m4 m5 m6 m7 th w h cnt most rch tl nc M Y C T CA CB CN CG CS Z K) ?_ ?_
  · intro ls H locs hq hP hD hS
    obtain ⟨hJ, hl⟩ := hq
    try dsimp only at hJ hl hP hD ⊢
    have hP : zP G (mdL G md ma mb mc mt m1 m2 m3 m4 m5 m6 m7 th w h cnt most rch tl nc M Y C T CA CB CN CG CS Z K) H := hP
    have hD : va_D A (mdL G md ma mb mc mt m1 m2 m3 m4 m5 m6 m7 th w h cnt most rch tl nc M Y C T CA CB CN CG CS Z K) := hD
    obtain ⟨cd, ecd⟩ : ∃ z : Int, z = cSee x y b w h := ⟨_, rfl⟩
    refine z_top cd ecd.symm ?_
    have hcd : 0 ≤ cd ∧ cd ≤ 1 := by rw [ecd]; unfold cSee; (repeat' split) <;> omega
    have hcz : cd = 0 → (0 ≤ x ∧ x < w) ∧ (0 ≤ y ∧ y < h) ∧ (0 ≤ b ∧ b < 3) := fun h9 => by rw [ecd] at h9; revert h9; unfold cSee; (repeat' split) <;> omega
    refine pf_X5_62 (ws' := mdL G md ma mb mc mt m1 m2 m3 m4 m5 m6 m7 cd w h cnt most rch tl nc M Y C T CA CB CN CG CS Z K) hx hb hT hown hK hP hD hS 0 rfl (Nat.le_of_ble_eq_true rfl) rfl rfl rfl dX5_seen_24 (fun H locs hP hD hS => ?_)
    refine lv_aload_n hx hb dX5_seen_27 rfl (lv_at hl 0 rfl) ?_
    refine gf_X5_62 hx hb hT hown hK hP 0 rfl rfl dX5_seen_28 ?_
    refine z_if_le (tgt := 38) hx hb dX5_seen_31 (by decide) (by omega) (fun h31 => ?_) (fun h31 => ?_)
    · skip
      have hk8 := hcz (by omega)
      have hlb := lendV_b (w := w) (h := h) (rch := rch) (x := x) (y := y) (cdB M (PPf Y w (w * h)) (w * h) cnt w (x + w * y)) (by omega) (by omega)
      refine z_cutH (A := A) (H0 := s.heap) (G := G) (σ := Array Slot) (fun zq => F0 m 57 (zq) [.int (zI ((if tr = 0 then -1 else lendV w h rch x y (cdB M (PPf Y w (w * h)) (w * h) cnt w (x + w * y))))), .int (zI (b)), .int (zI (y)), .int (zI (x)), .ref md]) (fun zq => (True) ∧ lv_has (zq) 5 [(0, .ref md), (1, .int (zI (x))), (2, .int (zI (y))), (3, .int (zI (b))), (4, .int (zI (tr)))]) (fun zq => mdL G md ma mb mc mt m1 m2 m3 m4 m5 m6 m7 cd w h cnt most rch tl nc M Y C T CA CB CN CG CS Z K) ?_ ?_
      · intro ls H locs hq hP hD hS
        obtain ⟨hJ, hl⟩ := hq
        try dsimp only at hJ hl hP hD ⊢
        have hP : zP G (mdL G md ma mb mc mt m1 m2 m3 m4 m5 m6 m7 cd w h cnt most rch tl nc M Y C T CA CB CN CG CS Z K) H := hP
        have hD : va_D A (mdL G md ma mb mc mt m1 m2 m3 m4 m5 m6 m7 cd w h cnt most rch tl nc M Y C T CA CB CN CG CS Z K) := hD
        have hln : -1 ≤ (if tr = 0 then -1 else lendV w h rch x y (cdB M (PPf Y w (w * h)) (w * h) cnt w (x + w * y))) ∧ (if tr = 0 then -1 else lendV w h rch x y (cdB M (PPf Y w (w * h)) (w * h) cnt w (x + w * y))) < w * h := by split <;> omega
        refine z_callV (q0 := 0) (G := G) (As := [.int (zI (x)), .int (zI (y)), .int (zI (b)), .int (zI ((if tr = 0 then -1 else lendV w h rch x y (cdB M (PPf Y w (w * h)) (w * h) cnt w (x + w * y)))))]) (rest := []) hx hb hml hown hT hK (c_X5_bandOf l G md ma mb mc mt m1 m2 m3 m4 m5 m6 m7 cd w h cnt most rch tl nc M Y C T CA CB CN CG CS Z K (x) (y) (b) ((if tr = 0 then -1 else lendV w h rch x y (cdB M (PPf Y w (w * h)) (w * h) cnt w (x + w * y)))) hm (by omega) (by omega) (by omega) (by omega)) kc_X5_96 ⟨Nat.le_of_ble_eq_true rfl, Nat.le_of_ble_eq_true rfl⟩ ⟨rfl, rfl⟩ ⟨Nat.le_of_ble_eq_true rfl, Nat.le_of_ble_eq_true rfl⟩ hP rfl rfl rfl rfl hl.1 rfl (Nat.le_of_ble_eq_true rfl) dX5_seen_57 ?_
        have hQ : mdL G md ma mb mc mt m1 m2 m3 m4 m5 m6 m7 (cSee x y b w h) w h cnt most rch tl nc M Y C T CA CB CN CG CS Z K = mdL G md ma mb mc mt m1 m2 m3 m4 m5 m6 m7 cd w h cnt most rch tl nc M Y C T CA CB CN CG CS Z K := by rw [← ecd] <;> (by_cases hc0 : cd = 0) <;> first | (exfalso; omega) | (simp only [if_pos hc0]; done) | (simp only [if_neg hc0]; done) | rfl
        exact z_wri () hx hb hr hlocks hK (by rw [hQ]; exact hP) (by rw [hQ]; exact hD) hS (trivial) (by rw [← ecd] <;> (by_cases hc0 : cd = 0) <;> first | (exfalso; omega) | (rw [if_pos hc0]; done) | (rw [if_neg hc0]; done)) dX5_seen_60
      intro J57
      refine lv_aload_n hx hb dX5_seen_38 rfl (lv_at hl 0 rfl) ?_
      refine lv_iload_n hx hb dX5_seen_39 rfl (lv_at hl 1 rfl) ?_
      refine lv_iload_n hx hb dX5_seen_40 rfl (lv_at hl 2 rfl) ?_
      refine lv_iload_n hx hb dX5_seen_41 rfl (lv_at hl 3 rfl) ?_
      refine lv_iload hx hb dX5_seen_42 (lv_at hl 4 rfl) ?_
      refine z_if_eq (tgt := 56) hx hb dX5_seen_44 (by decide) (by omega) (fun h44 => ?_) (fun h44 => ?_)
      · skip
        refine z_iconst hx hb dX5_seen_56 ?_
        refine z_top (if tr = 0 then -1 else lendV w h rch x y (cdB M (PPf Y w (w * h)) (w * h) cnt w (x + w * y))) (by split <;> first | rfl | omega) ?_
        exact J57 (ls) _ _ ⟨trivial, lv_sub hl [0, 1, 2, 3, 4] rfl⟩ hP hD hS
      · skip
        refine lv_aload_n hx hb dX5_seen_47 rfl (lv_at hl 0 rfl) ?_
        refine lv_iload_n hx hb dX5_seen_48 rfl (lv_at hl 1 rfl) ?_
        refine lv_iload_n hx hb dX5_seen_49 rfl (lv_at hl 2 rfl) ?_
        refine z_callV (q0 := 0) (G := G) (As := [.int (zI (x)), .int (zI (y))]) (rest := [.int (zI (b)), .int (zI (y)), .int (zI (x)), .ref md]) hx hb hml hown hT hK (c_X5_lenderOf l G md ma mb mc mt m1 m2 m3 m4 m5 m6 m7 cd w h cnt most rch tl nc M Y C T CA CB CN CG CS Z K (x) (y) hm (by omega) (by omega)) kc_X5_110 ⟨Nat.le_of_ble_eq_true rfl, Nat.le_of_ble_eq_true rfl⟩ ⟨rfl, rfl⟩ ⟨Nat.le_of_ble_eq_true rfl, Nat.le_of_ble_eq_true rfl⟩ hP rfl rfl rfl rfl hl.1 rfl (Nat.le_of_ble_eq_true rfl) dX5_seen_50 ?_
        refine z_goto (tgt := 57) hx hb dX5_seen_53 (by decide) ?_
        refine z_top (if tr = 0 then -1 else lendV w h rch x y (cdB M (PPf Y w (w * h)) (w * h) cnt w (x + w * y))) (by split <;> first | rfl | omega) ?_
        exact J57 (ls) _ _ ⟨trivial, lv_sub hl [0, 1, 2, 3, 4] rfl⟩ hP hD hS
    · skip
      refine z_iconst hx hb dX5_seen_34 ?_
      refine z_goto (tgt := 60) hx hb dX5_seen_35 (by decide) ?_
      have hQ : mdL G md ma mb mc mt m1 m2 m3 m4 m5 m6 m7 (cSee x y b w h) w h cnt most rch tl nc M Y C T CA CB CN CG CS Z K = mdL G md ma mb mc mt m1 m2 m3 m4 m5 m6 m7 cd w h cnt most rch tl nc M Y C T CA CB CN CG CS Z K := by rw [← ecd] <;> (by_cases hc0 : cd = 0) <;> first | (exfalso; omega) | (simp only [if_pos hc0]; done) | (simp only [if_neg hc0]; done) | rfl
      exact z_wri () hx hb hr hlocks hK (by rw [hQ]; exact hP) (by rw [hQ]; exact hD) hS (trivial) (by rw [← ecd] <;> (by_cases hc0 : cd = 0) <;> first | (exfalso; omega) | (rw [if_pos hc0]; done) | (rw [if_neg hc0]; done)) dX5_seen_60
  intro J24
  refine lv_aload_n hx hb dX5_seen_1 rfl (lv_at hl 0 rfl) ?_
  refine lv_iload_n hx hb dX5_seen_2 rfl (lv_at hl 1 rfl) ?_
  refine lv_iload_n hx hb dX5_seen_3 rfl (lv_at hl 2 rfl) ?_
  refine z_callV (q0 := 0) (G := G) (As := [.int (zI (x)), .int (zI (y))]) (rest := [.ref md]) hx hb hml hown hT hK (c_X5_isPoint l G md ma mb mc mt m1 m2 m3 m4 m5 m6 m7 th w h cnt most rch tl nc M Y C T CA CB CN CG CS Z K (x) (y) hm (by omega) (by omega)) kc_X5_106 ⟨Nat.le_of_ble_eq_true rfl, Nat.le_of_ble_eq_true rfl⟩ ⟨rfl, rfl⟩ ⟨Nat.le_of_ble_eq_true rfl, Nat.le_of_ble_eq_true rfl⟩ hP rfl rfl rfl rfl hl.1 rfl (Nat.le_of_ble_eq_true rfl) dX5_seen_4 ?_
  refine z_if_eq (tgt := 23) hx hb dX5_seen_7 (by decide) (bI_rng _) (fun h7 => ?_) (fun h7 => ?_)
  · skip
    have h7 := bI_f.mp h7
    simp only [Bool.and_eq_true, Bool.and_eq_false_iff, Bool.or_eq_true, Bool.or_eq_false_iff, decide_eq_true_eq, decide_eq_false_iff_not] at h7
    refine z_iconst hx hb dX5_seen_23 ?_
    refine z_top (cSee x y b w h) (by unfold cSee; (repeat' split) <;> omega) ?_
    exact J24 (ls) _ _ ⟨trivial, lv_sub hl [0, 1, 2, 3, 4] rfl⟩ hP hD hS
  · skip
    have h7 := bI_t.mp h7
    simp only [Bool.and_eq_true, Bool.and_eq_false_iff, Bool.or_eq_true, Bool.or_eq_false_iff, decide_eq_true_eq, decide_eq_false_iff_not] at h7
    refine lv_iload_n hx hb dX5_seen_10 rfl (lv_at hl 3 rfl) ?_
    refine z_if_lt (tgt := 23) hx hb dX5_seen_11 (by decide) (by omega) (fun h11 => ?_) (fun h11 => ?_)
    · skip
      refine z_iconst hx hb dX5_seen_23 ?_
      refine z_top (cSee x y b w h) (by unfold cSee; (repeat' split) <;> omega) ?_
      exact J24 (ls) _ _ ⟨trivial, lv_sub hl [0, 1, 2, 3, 4] rfl⟩ hP hD hS
    · skip
      refine lv_iload_n hx hb dX5_seen_14 rfl (lv_at hl 3 rfl) ?_
      refine z_iconst hx hb dX5_seen_15 ?_
      refine z_icmp_ge (tgt := 23) hx hb dX5_seen_16 (by decide) (by omega) (by omega) (fun h16 => ?_) (fun h16 => ?_)
      · skip
        refine z_iconst hx hb dX5_seen_23 ?_
        refine z_top (cSee x y b w h) (by unfold cSee; (repeat' split) <;> omega) ?_
        exact J24 (ls) _ _ ⟨trivial, lv_sub hl [0, 1, 2, 3, 4] rfl⟩ hP hD hS
      · skip
        refine z_iconst hx hb dX5_seen_19 ?_
        refine z_goto (tgt := 24) hx hb dX5_seen_20 (by decide) ?_
        refine z_top (cSee x y b w h) (by unfold cSee; (repeat' split) <;> omega) ?_
        exact J24 (ls) _ _ ⟨trivial, lv_sub hl [0, 1, 2, 3, 4] rfl⟩ hP hD hS

set_option maxHeartbeats 4000000 in
set_option maxRecDepth 100000 in
theorem c_X5_lender (l : Launch) (G : zG) (md ma mb mc mt m1 m2 m3 m4 m5 m6 m7 : Nat) (th w h cnt most rch tl nc : Int) (M Y C T CA CB CN CG CS Z K : Int → Int) (x y : Int) (hm : mdOK w h cnt most rch tl nc M Y C T CN CG CS K) (hx : -2147483648 ≤ x ∧ x ≤ 2147483647) (hy : -2147483648 ≤ y ∧ y ≤ 2147483647) : zWi l yX5_lender cX5_lender 3 (some .int) { frames := 5, cells := 0, slots := 0, locals := 128 } G [.ref md, .int (zI (x)), .int (zI (y))] (mdL G md ma mb mc mt m1 m2 m3 m4 m5 m6 m7 th w h cnt most rch tl nc M Y C T CA CB CN CG CS Z K) (S := Unit) (fun u => if cLen x y w h = 0 then (lendV w h rch x y (cdB M (PPf Y w (w * h)) (w * h) cnt w (x + w * y))) else 0) (fun u => True) (fun u => mdL G md ma mb mc mt m1 m2 m3 m4 m5 m6 m7 (cLen x y w h) w h cnt most rch tl nc M Y C T CA CB CN CG CS Z K) := by
  intro sz
  refine Met.ofW (cc := cX5_lender) (maxL := 3) (ret := (some .int)) (by decide) rfl ?_
  intro p e s m args below meth c s₁ B hml hv
  obtain ⟨rfl, hsz, hP, hK, hD0⟩ := hv
  have hx := B.exec
  have hb := B.bytes
  have hr := B.returns
  have hT : ∀ w ∈ TB, w.before _ s = true := fun w h => atoms_spec (ws := Cond.code yX5_lender cX5_lender 3 (some .int) :: TB) B.pre w (List.mem_cons_of_mem _ h)
  have hown : s.vm.findClass RX5 = some m.cls := findClass_of_methodNamed B.named
  have hlocks := B.notSynchronized
  subst hsz
  have hD := hD0.self (sz := s.heap.size)
  generalize hAe : va_A (mdL G md ma mb mc mt m1 m2 m3 m4 m5 m6 m7 th w h cnt most rch tl nc M Y C T CA CB CN CG CS Z K) s.heap.size = A at hD ⊢
  have hA : ∀ q : Nat, s.heap.size ≤ q → A q := fun q h => by rw [← hAe]; exact Or.inr h
  have hS : va_S A s.heap s.heap [] := va_S.rf
  have hP : zP G (mdL G md ma mb mc mt m1 m2 m3 m4 m5 m6 m7 th w h cnt most rch tl nc M Y C T CA CB CN CG CS Z K) s.heap := hP
  have hD : va_D A (mdL G md ma mb mc mt m1 m2 m3 m4 m5 m6 m7 th w h cnt most rch tl nc M Y C T CA CB CN CG CS Z K) := hD
  have hl := lv_entry ([.ref md, .int (zI (x)), .int (zI (y))]) (n := 3) (Nat.le_of_ble_eq_true rfl)
  rw [lg_entry_eq]
  generalize (lg_sl ([.ref md, .int (zI (x)), .int (zI (y))]) ++ List.replicate (3 - (lg_sl ([.ref md, .int (zI (x)), .int (zI (y))])).length) Slot.unset).toArray = ls at hl ⊢
  have hl : lv_has ls 3 [(0, .ref md), (1, .int (zI (x))), (2, .int (zI (y)))] := hl
  obtain ⟨hw, hh, hcnt, hmost, hrch, hM, hY, hC, hTb, hT0, hT5, htl, hnc, hcl, hKb⟩ := id hm
  have hpt := md_pts hm
  have hPb : ∀ j, 0 ≤ PPf Y w (w * h) j ∧ PPf Y w (w * h) j ≤ 255 := fun j => hY _
  refine lv_aload_n hx hb dX5_lender_0 rfl (lv_at hl 0 rfl) ?_
  refine z_cutH (A := A) (H0 := s.heap) (G := G) (σ := Array Slot) (fun zq => F0 m 15 (zq) [.int (zI (cLen x y w h)), .ref md]) (fun zq => (True) ∧ lv_has (zq) 3 [(0, .ref md), (1, .int (zI (x))), (2, .int (zI (y)))]) (fun zq => mdL G md ma mb mc mt m1 m2 m3 m4 m5 m6 m7 th w h cnt most rch tl nc M Y C T CA CB CN CG CS Z K) ?_ ?_
  · intro ls H locs hq hP hD hS
    obtain ⟨hJ, hl⟩ := hq
    try dsimp only at hJ hl hP hD ⊢
    have hP : zP G (mdL G md ma mb mc mt m1 m2 m3 m4 m5 m6 m7 th w h cnt most rch tl nc M Y C T CA CB CN CG CS Z K) H := hP
    have hD : va_D A (mdL G md ma mb mc mt m1 m2 m3 m4 m5 m6 m7 th w h cnt most rch tl nc M Y C T CA CB CN CG CS Z K) := hD
    obtain ⟨cd, ecd⟩ : ∃ z : Int, z = cLen x y w h := ⟨_, rfl⟩
    refine z_top cd ecd.symm ?_
    have hcd : 0 ≤ cd ∧ cd ≤ 1 := by rw [ecd]; unfold cLen; (repeat' split) <;> omega
    have hcz : cd = 0 → (0 ≤ x ∧ x < w) ∧ (0 ≤ y ∧ y < h) := fun h9 => by rw [ecd] at h9; revert h9; unfold cLen; (repeat' split) <;> omega
    refine pf_X5_62 (ws' := mdL G md ma mb mc mt m1 m2 m3 m4 m5 m6 m7 cd w h cnt most rch tl nc M Y C T CA CB CN CG CS Z K) hx hb hT hown hK hP hD hS 0 rfl (Nat.le_of_ble_eq_true rfl) rfl rfl rfl dX5_lender_15 (fun H locs hP hD hS => ?_)
    refine lv_aload_n hx hb dX5_lender_18 rfl (lv_at hl 0 rfl) ?_
    refine gf_X5_62 hx hb hT hown hK hP 0 rfl rfl dX5_lender_19 ?_
    refine z_if_le (tgt := 29) hx hb dX5_lender_22 (by decide) (by omega) (fun h22 => ?_) (fun h22 => ?_)
    · skip
      have hk8 := hcz (by omega)
      refine lv_aload_n hx hb dX5_lender_29 rfl (lv_at hl 0 rfl) ?_
      refine lv_iload_n hx hb dX5_lender_30 rfl (lv_at hl 1 rfl) ?_
      refine lv_iload_n hx hb dX5_lender_31 rfl (lv_at hl 2 rfl) ?_
      refine z_callV (q0 := 0) (G := G) (As := [.int (zI (x)), .int (zI (y))]) (rest := []) hx hb hml hown hT hK (c_X5_lenderOf l G md ma mb mc mt m1 m2 m3 m4 m5 m6 m7 cd w h cnt most rch tl nc M Y C T CA CB CN CG CS Z K (x) (y) hm (by omega) (by omega)) kc_X5_110 ⟨Nat.le_of_ble_eq_true rfl, Nat.le_of_ble_eq_true rfl⟩ ⟨rfl, rfl⟩ ⟨Nat.le_of_ble_eq_true rfl, Nat.le_of_ble_eq_true rfl⟩ hP rfl rfl rfl rfl hl.1 rfl (Nat.le_of_ble_eq_true rfl) dX5_lender_32 ?_
      have hQ : mdL G md ma mb mc mt m1 m2 m3 m4 m5 m6 m7 (cLen x y w h) w h cnt most rch tl nc M Y C T CA CB CN CG CS Z K = mdL G md ma mb mc mt m1 m2 m3 m4 m5 m6 m7 cd w h cnt most rch tl nc M Y C T CA CB CN CG CS Z K := by rw [← ecd] <;> (by_cases hc0 : cd = 0) <;> first | (exfalso; omega) | (simp only [if_pos hc0]; done) | (simp only [if_neg hc0]; done) | rfl
      exact z_wri () hx hb hr hlocks hK (by rw [hQ]; exact hP) (by rw [hQ]; exact hD) hS (trivial) (by rw [← ecd] <;> (by_cases hc0 : cd = 0) <;> first | (exfalso; omega) | (rw [if_pos hc0]; done) | (rw [if_neg hc0]; done)) dX5_lender_35
    · skip
      refine z_iconst hx hb dX5_lender_25 ?_
      refine z_goto (tgt := 35) hx hb dX5_lender_26 (by decide) ?_
      have hQ : mdL G md ma mb mc mt m1 m2 m3 m4 m5 m6 m7 (cLen x y w h) w h cnt most rch tl nc M Y C T CA CB CN CG CS Z K = mdL G md ma mb mc mt m1 m2 m3 m4 m5 m6 m7 cd w h cnt most rch tl nc M Y C T CA CB CN CG CS Z K := by rw [← ecd] <;> (by_cases hc0 : cd = 0) <;> first | (exfalso; omega) | (simp only [if_pos hc0]; done) | (simp only [if_neg hc0]; done) | rfl
      exact z_wri () hx hb hr hlocks hK (by rw [hQ]; exact hP) (by rw [hQ]; exact hD) hS (trivial) (by rw [← ecd] <;> (by_cases hc0 : cd = 0) <;> first | (exfalso; omega) | (rw [if_pos hc0]; done) | (rw [if_neg hc0]; done)) dX5_lender_35
  intro J15
  refine lv_aload_n hx hb dX5_lender_1 rfl (lv_at hl 0 rfl) ?_
  refine lv_iload_n hx hb dX5_lender_2 rfl (lv_at hl 1 rfl) ?_
  refine lv_iload_n hx hb dX5_lender_3 rfl (lv_at hl 2 rfl) ?_
  refine z_callV (q0 := 0) (G := G) (As := [.int (zI (x)), .int (zI (y))]) (rest := [.ref md]) hx hb hml hown hT hK (c_X5_isPoint l G md ma mb mc mt m1 m2 m3 m4 m5 m6 m7 th w h cnt most rch tl nc M Y C T CA CB CN CG CS Z K (x) (y) hm (by omega) (by omega)) kc_X5_106 ⟨Nat.le_of_ble_eq_true rfl, Nat.le_of_ble_eq_true rfl⟩ ⟨rfl, rfl⟩ ⟨Nat.le_of_ble_eq_true rfl, Nat.le_of_ble_eq_true rfl⟩ hP rfl rfl rfl rfl hl.1 rfl (Nat.le_of_ble_eq_true rfl) dX5_lender_4 ?_
  refine z_if_eq (tgt := 14) hx hb dX5_lender_7 (by decide) (bI_rng _) (fun h7 => ?_) (fun h7 => ?_)
  · skip
    have h7 := bI_f.mp h7
    simp only [Bool.and_eq_true, Bool.and_eq_false_iff, Bool.or_eq_true, Bool.or_eq_false_iff, decide_eq_true_eq, decide_eq_false_iff_not] at h7
    refine z_iconst hx hb dX5_lender_14 ?_
    refine z_top (cLen x y w h) (by unfold cLen; (repeat' split) <;> omega) ?_
    exact J15 (ls) _ _ ⟨trivial, lv_sub hl [0, 1, 2] rfl⟩ hP hD hS
  · skip
    have h7 := bI_t.mp h7
    simp only [Bool.and_eq_true, Bool.and_eq_false_iff, Bool.or_eq_true, Bool.or_eq_false_iff, decide_eq_true_eq, decide_eq_false_iff_not] at h7
    refine z_iconst hx hb dX5_lender_10 ?_
    refine z_goto (tgt := 15) hx hb dX5_lender_11 (by decide) ?_
    refine z_top (cLen x y w h) (by unfold cLen; (repeat' split) <;> omega) ?_
    exact J15 (ls) _ _ ⟨trivial, lv_sub hl [0, 1, 2] rfl⟩ hP hD hS

set_option maxHeartbeats 4000000 in
set_option maxRecDepth 100000 in
theorem c_X5_rank (l : Launch) (G : zG) (md ma mb mc mt m1 m2 m3 m4 m5 m6 m7 : Nat) (th w h cnt most rch tl nc : Int) (M Y C T CA CB CN CG CS Z K : Int → Int) (c9 i : Int) (hm : mdOK w h cnt most rch tl nc M Y C T CN CG CS K) (hc9 : -2147483648 ≤ c9 ∧ c9 ≤ 2147483647) (hi : -2147483648 ≤ i ∧ i ≤ 2147483647) (hcN : 0 ≤ c9 → c9 < 6 → -1 ≤ CN c9 ∧ CN c9 ≤ 300) : zWi l yX5_rank cX5_rank 3 (some .int) { frames := 1, cells := 0, slots := 0, locals := 21 } G [.ref md, .int (zI (c9)), .int (zI (i))] (mdL G md ma mb mc mt m1 m2 m3 m4 m5 m6 m7 th w h cnt most rch tl nc M Y C T CA CB CN CG CS Z K) (S := Unit) (fun u => if cRan c9 i nc (CN c9) = 0 then (if i = -1 then CN c9 else K (300 * c9 + i)) else 0) (fun u => True) (fun u => mdL G md ma mb mc mt m1 m2 m3 m4 m5 m6 m7 (cRan c9 i nc (CN c9)) w h cnt most rch tl nc M Y C T CA CB CN CG CS Z K) := by
  intro sz
  refine Met.ofW (cc := cX5_rank) (maxL := 3) (ret := (some .int)) (by decide) rfl ?_
  intro p e s m args below meth c s₁ B hml hv
  obtain ⟨rfl, hsz, hP, hK, hD0⟩ := hv
  have hx := B.exec
  have hb := B.bytes
  have hr := B.returns
  have hT : ∀ w ∈ TB, w.before _ s = true := fun w h => atoms_spec (ws := Cond.code yX5_rank cX5_rank 3 (some .int) :: TB) B.pre w (List.mem_cons_of_mem _ h)
  have hown : s.vm.findClass RX5 = some m.cls := findClass_of_methodNamed B.named
  have hlocks := B.notSynchronized
  subst hsz
  have hD := hD0.self (sz := s.heap.size)
  generalize hAe : va_A (mdL G md ma mb mc mt m1 m2 m3 m4 m5 m6 m7 th w h cnt most rch tl nc M Y C T CA CB CN CG CS Z K) s.heap.size = A at hD ⊢
  have hA : ∀ q : Nat, s.heap.size ≤ q → A q := fun q h => by rw [← hAe]; exact Or.inr h
  have hS : va_S A s.heap s.heap [] := va_S.rf
  have hP : zP G (mdL G md ma mb mc mt m1 m2 m3 m4 m5 m6 m7 th w h cnt most rch tl nc M Y C T CA CB CN CG CS Z K) s.heap := hP
  have hD : va_D A (mdL G md ma mb mc mt m1 m2 m3 m4 m5 m6 m7 th w h cnt most rch tl nc M Y C T CA CB CN CG CS Z K) := hD
  have hl := lv_entry ([.ref md, .int (zI (c9)), .int (zI (i))]) (n := 3) (Nat.le_of_ble_eq_true rfl)
  rw [lg_entry_eq]
  generalize (lg_sl ([.ref md, .int (zI (c9)), .int (zI (i))]) ++ List.replicate (3 - (lg_sl ([.ref md, .int (zI (c9)), .int (zI (i))])).length) Slot.unset).toArray = ls at hl ⊢
  have hl : lv_has ls 3 [(0, .ref md), (1, .int (zI (c9))), (2, .int (zI (i)))] := hl
  obtain ⟨hw, hh, hcnt, hmost, hrch, hM, hY, hC, hTb, hT0, hT5, htl, hnc, hcl, hKb⟩ := id hm
  have hpt := md_pts hm
  have hPb : ∀ j, 0 ≤ PPf Y w (w * h) j ∧ PPf Y w (w * h) j ≤ 255 := fun j => hY _
  refine lv_aload_n hx hb dX5_rank_0 rfl (lv_at hl 0 rfl) ?_
  refine z_cutH (A := A) (H0 := s.heap) (G := G) (σ := Array Slot) (fun zq => F0 m 29 (zq) [.int (zI (cRan c9 i nc (CN c9))), .ref md]) (fun zq => (True) ∧ lv_has (zq) 3 [(0, .ref md), (1, .int (zI (c9))), (2, .int (zI (i)))]) (fun zq => mdL G md ma mb mc mt m1 m2 m3 m4 m5 m6 m7 th w h cnt most rch tl nc M Y C T CA CB CN CG CS Z K) ?_ ?_
  · intro ls H locs hq hP hD hS
    obtain ⟨hJ, hl⟩ := hq
    try dsimp only at hJ hl hP hD ⊢
    have hP : zP G (mdL G md ma mb mc mt m1 m2 m3 m4 m5 m6 m7 th w h cnt most rch tl nc M Y C T CA CB CN CG CS Z K) H := hP
    have hD : va_D A (mdL G md ma mb mc mt m1 m2 m3 m4 m5 m6 m7 th w h cnt most rch tl nc M Y C T CA CB CN CG CS Z K) := hD
    obtain ⟨cd, ecd⟩ : ∃ z : Int, z = cRan c9 i nc (CN c9) := ⟨_, rfl⟩
    refine z_top cd ecd.symm ?_
    have hcd : 0 ≤ cd ∧ cd ≤ 1 := by rw [ecd]; unfold cRan; (repeat' split) <;> omega
    have hcz : cd = 0 → (0 ≤ c9 ∧ c9 < nc) ∧ (-1 ≤ i ∧ i < CN c9) := fun h9 => by rw [ecd] at h9; revert h9; unfold cRan; (repeat' split) <;> omega
    refine pf_X5_62 (ws' := mdL G md ma mb mc mt m1 m2 m3 m4 m5 m6 m7 cd w h cnt most rch tl nc M Y C T CA CB CN CG CS Z K) hx hb hT hown hK hP hD hS 0 rfl (Nat.le_of_ble_eq_true rfl) rfl rfl rfl dX5_rank_29 (fun H locs hP hD hS => ?_)
    refine lv_aload_n hx hb dX5_rank_32 rfl (lv_at hl 0 rfl) ?_
    refine gf_X5_62 hx hb hT hown hK hP 0 rfl rfl dX5_rank_33 ?_
    refine z_if_le (tgt := 43) hx hb dX5_rank_36 (by decide) (by omega) (fun h36 => ?_) (fun h36 => ?_)
    · skip
      have hk8 := hcz (by omega)
      have hcn := hcN (by omega) (by omega)
      refine lv_iload_n hx hb dX5_rank_43 rfl (lv_at hl 2 rfl) ?_
      refine z_iconst hx hb dX5_rank_44 ?_
      refine z_icmp_ne (tgt := 57) hx hb dX5_rank_45 (by decide) (by omega) (by omega) (fun h45 => ?_) (fun h45 => ?_)
      · skip
        have hi1 : ¬ i = -1 := by omega
        refine lv_aload_n hx hb dX5_rank_57 rfl (lv_at hl 0 rfl) ?_
        refine gf_X5_53 hx hb hT hown hK hP 0 rfl rfl dX5_rank_58 ?_
        refine z_sipush hx hb dX5_rank_61 (by decide +kernel) ?_
        refine lv_iload_n hx hb dX5_rank_64 rfl (lv_at hl 1 rfl) ?_
        refine z_imul hx hb dX5_rank_65 ?_
        refine lv_iload_n hx hb dX5_rank_66 rfl (lv_at hl 2 rfl) ?_
        refine z_iadd hx hb dX5_rank_67 ?_
        refine z_iald hx hb hK hP 11 rfl (⟨by omega, by omega, by omega⟩) dX5_rank_68 ?_
        have hQ : mdL G md ma mb mc mt m1 m2 m3 m4 m5 m6 m7 (cRan c9 i nc (CN c9)) w h cnt most rch tl nc M Y C T CA CB CN CG CS Z K = mdL G md ma mb mc mt m1 m2 m3 m4 m5 m6 m7 cd w h cnt most rch tl nc M Y C T CA CB CN CG CS Z K := by rw [← ecd] <;> (by_cases hc0 : cd = 0) <;> first | (exfalso; omega) | (simp only [if_pos hc0]; done) | (simp only [if_neg hc0]; done) | rfl
        exact z_wri () hx hb hr hlocks hK (by rw [hQ]; exact hP) (by rw [hQ]; exact hD) hS (trivial) (by rw [← ecd]; first | (rw [if_pos (by omega : cd = 0)]; first | exact (if_pos hi1).symm | exact (if_neg hi1).symm) | (rw [if_neg (by omega : ¬ cd = 0)])) dX5_rank_69
      · skip
        have hi1 : i = -1 := by omega
        refine lv_aload_n hx hb dX5_rank_48 rfl (lv_at hl 0 rfl) ?_
        refine gf_X5_41 hx hb hT hown hK hP 0 rfl rfl dX5_rank_49 ?_
        refine lv_iload_n hx hb dX5_rank_52 rfl (lv_at hl 1 rfl) ?_
        refine z_iald hx hb hK hP 7 rfl (⟨by omega, by omega, by omega⟩) dX5_rank_53 ?_
        refine z_goto (tgt := 69) hx hb dX5_rank_54 (by decide) ?_
        have hQ : mdL G md ma mb mc mt m1 m2 m3 m4 m5 m6 m7 (cRan c9 i nc (CN c9)) w h cnt most rch tl nc M Y C T CA CB CN CG CS Z K = mdL G md ma mb mc mt m1 m2 m3 m4 m5 m6 m7 cd w h cnt most rch tl nc M Y C T CA CB CN CG CS Z K := by rw [← ecd] <;> (by_cases hc0 : cd = 0) <;> first | (exfalso; omega) | (simp only [if_pos hc0]; done) | (simp only [if_neg hc0]; done) | rfl
        exact z_wri () hx hb hr hlocks hK (by rw [hQ]; exact hP) (by rw [hQ]; exact hD) hS (trivial) (by rw [← ecd]; first | (rw [if_pos (by omega : cd = 0)]; first | exact (if_pos hi1).symm | exact (if_neg hi1).symm) | (rw [if_neg (by omega : ¬ cd = 0)])) dX5_rank_69
    · skip
      refine z_iconst hx hb dX5_rank_39 ?_
      refine z_goto (tgt := 69) hx hb dX5_rank_40 (by decide) ?_
      have hQ : mdL G md ma mb mc mt m1 m2 m3 m4 m5 m6 m7 (cRan c9 i nc (CN c9)) w h cnt most rch tl nc M Y C T CA CB CN CG CS Z K = mdL G md ma mb mc mt m1 m2 m3 m4 m5 m6 m7 cd w h cnt most rch tl nc M Y C T CA CB CN CG CS Z K := by rw [← ecd] <;> (by_cases hc0 : cd = 0) <;> first | (exfalso; omega) | (simp only [if_pos hc0]; done) | (simp only [if_neg hc0]; done) | rfl
      exact z_wri () hx hb hr hlocks hK (by rw [hQ]; exact hP) (by rw [hQ]; exact hD) hS (trivial) (by rw [← ecd]; first | (rw [if_pos (by omega : cd = 0)]; first | exact (if_pos hi1).symm | exact (if_neg hi1).symm) | (rw [if_neg (by omega : ¬ cd = 0)])) dX5_rank_69
  intro J29
  refine lv_aload_n hx hb dX5_rank_1 rfl (lv_at hl 0 rfl) ?_
  refine lv_iload_n hx hb dX5_rank_2 rfl (lv_at hl 1 rfl) ?_
  refine z_callV (q0 := 0) (G := G) (As := [.int (zI (c9))]) (rest := [.ref md]) hx hb hml hown hT hK (c_X5_isCell l G md ma mb mc mt m1 m2 m3 m4 m5 m6 m7 th w h cnt most rch tl nc M Y C T CA CB CN CG CS Z K (c9) hm (by omega)) kc_X5_134 ⟨Nat.le_of_ble_eq_true rfl, Nat.le_of_ble_eq_true rfl⟩ ⟨rfl, rfl⟩ ⟨Nat.le_of_ble_eq_true rfl, Nat.le_of_ble_eq_true rfl⟩ hP rfl rfl rfl rfl hl.1 rfl (Nat.le_of_ble_eq_true rfl) dX5_rank_3 ?_
  refine z_if_eq (tgt := 28) hx hb dX5_rank_6 (by decide) (bI_rng _) (fun h6 => ?_) (fun h6 => ?_)
  · skip
    have h6 := bI_f.mp h6
    simp only [Bool.and_eq_true, Bool.and_eq_false_iff, Bool.or_eq_true, Bool.or_eq_false_iff, decide_eq_true_eq, decide_eq_false_iff_not] at h6
    refine z_iconst hx hb dX5_rank_28 ?_
    refine z_top (cRan c9 i nc (CN c9)) (by unfold cRan; (repeat' split) <;> omega) ?_
    exact J29 (ls) _ _ ⟨trivial, lv_sub hl [0, 1, 2] rfl⟩ hP hD hS
  · skip
    have h6 := bI_t.mp h6
    simp only [Bool.and_eq_true, Bool.and_eq_false_iff, Bool.or_eq_true, Bool.or_eq_false_iff, decide_eq_true_eq, decide_eq_false_iff_not] at h6
    have hcn := hcN (by omega) (by omega)
    refine lv_iload_n hx hb dX5_rank_9 rfl (lv_at hl 2 rfl) ?_
    refine z_iconst hx hb dX5_rank_10 ?_
    refine z_icmp_lt (tgt := 28) hx hb dX5_rank_11 (by decide) (by omega) (by omega) (fun h11 => ?_) (fun h11 => ?_)
    · skip
      refine z_iconst hx hb dX5_rank_28 ?_
      refine z_top (cRan c9 i nc (CN c9)) (by unfold cRan; (repeat' split) <;> omega) ?_
      exact J29 (ls) _ _ ⟨trivial, lv_sub hl [0, 1, 2] rfl⟩ hP hD hS
    · skip
      refine lv_iload_n hx hb dX5_rank_14 rfl (lv_at hl 2 rfl) ?_
      refine lv_aload_n hx hb dX5_rank_15 rfl (lv_at hl 0 rfl) ?_
      refine gf_X5_41 hx hb hT hown hK hP 0 rfl rfl dX5_rank_16 ?_
      refine lv_iload_n hx hb dX5_rank_19 rfl (lv_at hl 1 rfl) ?_
      refine z_iald hx hb hK hP 7 rfl (⟨by omega, by omega, by omega⟩) dX5_rank_20 ?_
      refine z_icmp_ge (tgt := 28) hx hb dX5_rank_21 (by decide) (by omega) (by omega) (fun h21 => ?_) (fun h21 => ?_)
      · skip
        refine z_iconst hx hb dX5_rank_28 ?_
        refine z_top (cRan c9 i nc (CN c9)) (by unfold cRan; (repeat' split) <;> omega) ?_
        exact J29 (ls) _ _ ⟨trivial, lv_sub hl [0, 1, 2] rfl⟩ hP hD hS
      · skip
        refine z_iconst hx hb dX5_rank_24 ?_
        refine z_goto (tgt := 29) hx hb dX5_rank_25 (by decide) ?_
        refine z_top (cRan c9 i nc (CN c9)) (by unfold cRan; (repeat' split) <;> omega) ?_
        exact J29 (ls) _ _ ⟨trivial, lv_sub hl [0, 1, 2] rfl⟩ hP hD hS

set_option maxHeartbeats 4000000 in
set_option maxRecDepth 100000 in
theorem c_X5_same (l : Launch) (G : zG) (md ma mb mc mt m1 m2 m3 m4 m5 m6 m7 : Nat) (th w h cnt most rch tl nc : Int) (M Y C T CA CB CN CG CS Z K : Int → Int) (c9 x y : Int) (hm : mdOK w h cnt most rch tl nc M Y C T CN CG CS K) (hc9 : -2147483648 ≤ c9 ∧ c9 ≤ 2147483647) (hx : -2147483648 ≤ x ∧ x ≤ 2147483647) (hy : -2147483648 ≤ y ∧ y ≤ 2147483647) : zWi l yX5_same cX5_same 4 (some .int) { frames := 2, cells := 0, slots := 0, locals := 49 } G [.ref md, .int (zI (c9)), .int (zI (x)), .int (zI (y))] (mdL G md ma mb mc mt m1 m2 m3 m4 m5 m6 m7 th w h cnt most rch tl nc M Y C T CA CB CN CG CS Z K) (S := Unit) (fun u => if cSam c9 x y nc = 0 then (nmV (CG c9) (CN c9 / CG c9) (CS c9) x y) else 0) (fun u => True) (fun u => mdL G md ma mb mc mt m1 m2 m3 m4 m5 m6 m7 (cSam c9 x y nc) w h cnt most rch tl nc M Y C T CA CB CN CG CS Z K) := by
  intro sz
  refine Met.ofW (cc := cX5_same) (maxL := 4) (ret := (some .int)) (by decide) rfl ?_
  intro p e s m args below meth c s₁ B hml hv
  obtain ⟨rfl, hsz, hP, hK, hD0⟩ := hv
  have hx := B.exec
  have hb := B.bytes
  have hr := B.returns
  have hT : ∀ w ∈ TB, w.before _ s = true := fun w h => atoms_spec (ws := Cond.code yX5_same cX5_same 4 (some .int) :: TB) B.pre w (List.mem_cons_of_mem _ h)
  have hown : s.vm.findClass RX5 = some m.cls := findClass_of_methodNamed B.named
  have hlocks := B.notSynchronized
  subst hsz
  have hD := hD0.self (sz := s.heap.size)
  generalize hAe : va_A (mdL G md ma mb mc mt m1 m2 m3 m4 m5 m6 m7 th w h cnt most rch tl nc M Y C T CA CB CN CG CS Z K) s.heap.size = A at hD ⊢
  have hA : ∀ q : Nat, s.heap.size ≤ q → A q := fun q h => by rw [← hAe]; exact Or.inr h
  have hS : va_S A s.heap s.heap [] := va_S.rf
  have hP : zP G (mdL G md ma mb mc mt m1 m2 m3 m4 m5 m6 m7 th w h cnt most rch tl nc M Y C T CA CB CN CG CS Z K) s.heap := hP
  have hD : va_D A (mdL G md ma mb mc mt m1 m2 m3 m4 m5 m6 m7 th w h cnt most rch tl nc M Y C T CA CB CN CG CS Z K) := hD
  have hl := lv_entry ([.ref md, .int (zI (c9)), .int (zI (x)), .int (zI (y))]) (n := 4) (Nat.le_of_ble_eq_true rfl)
  rw [lg_entry_eq]
  generalize (lg_sl ([.ref md, .int (zI (c9)), .int (zI (x)), .int (zI (y))]) ++ List.replicate (4 - (lg_sl ([.ref md, .int (zI (c9)), .int (zI (x)), .int (zI (y))])).length) Slot.unset).toArray = ls at hl ⊢
  have hl : lv_has ls 4 [(0, .ref md), (1, .int (zI (c9))), (2, .int (zI (x))), (3, .int (zI (y)))] := hl
  obtain ⟨hw, hh, hcnt, hmost, hrch, hM, hY, hC, hTb, hT0, hT5, htl, hnc, hcl, hKb⟩ := id hm
  have hpt := md_pts hm
  have hPb : ∀ j, 0 ≤ PPf Y w (w * h) j ∧ PPf Y w (w * h) j ≤ 255 := fun j => hY _
  refine lv_aload_n hx hb dX5_same_0 rfl (lv_at hl 0 rfl) ?_
  refine z_cutH (A := A) (H0 := s.heap) (G := G) (σ := Array Slot) (fun zq => F0 m 32 (zq) [.int (zI (cSam c9 x y nc)), .ref md]) (fun zq => (True) ∧ lv_has (zq) 4 [(0, .ref md), (1, .int (zI (c9))), (2, .int (zI (x))), (3, .int (zI (y)))]) (fun zq => mdL G md ma mb mc mt m1 m2 m3 m4 m5 m6 m7 th w h cnt most rch tl nc M Y C T CA CB CN CG CS Z K) ?_ ?_
  · intro ls H locs hq hP hD hS
    obtain ⟨hJ, hl⟩ := hq
    try dsimp only at hJ hl hP hD ⊢
    have hP : zP G (mdL G md ma mb mc mt m1 m2 m3 m4 m5 m6 m7 th w h cnt most rch tl nc M Y C T CA CB CN CG CS Z K) H := hP
    have hD : va_D A (mdL G md ma mb mc mt m1 m2 m3 m4 m5 m6 m7 th w h cnt most rch tl nc M Y C T CA CB CN CG CS Z K) := hD
    obtain ⟨cd, ecd⟩ : ∃ z : Int, z = cSam c9 x y nc := ⟨_, rfl⟩
    refine z_top cd ecd.symm ?_
    have hcd : 0 ≤ cd ∧ cd ≤ 2 := by rw [ecd]; unfold cSam; (repeat' split) <;> omega
    have hcz : cd = 0 → (0 ≤ c9 ∧ c9 < nc) ∧ (-1000000 ≤ x ∧ x ≤ 1000000) ∧ (-1000000 ≤ y ∧ y ≤ 1000000) := fun h9 => by rw [ecd] at h9; revert h9; unfold cSam; (repeat' split) <;> omega
    refine pf_X5_62 (ws' := mdL G md ma mb mc mt m1 m2 m3 m4 m5 m6 m7 cd w h cnt most rch tl nc M Y C T CA CB CN CG CS Z K) hx hb hT hown hK hP hD hS 0 rfl (Nat.le_of_ble_eq_true rfl) rfl rfl rfl dX5_same_32 (fun H locs hP hD hS => ?_)
    refine lv_aload_n hx hb dX5_same_35 rfl (lv_at hl 0 rfl) ?_
    refine gf_X5_62 hx hb hT hown hK hP 0 rfl rfl dX5_same_36 ?_
    refine z_if_le (tgt := 46) hx hb dX5_same_39 (by decide) (by omega) (fun h39 => ?_) (fun h39 => ?_)
    · skip
      have hk8 := hcz (by omega)
      refine lv_aload_n hx hb dX5_same_46 rfl (lv_at hl 0 rfl) ?_
      refine lv_iload_n hx hb dX5_same_47 rfl (lv_at hl 1 rfl) ?_
      refine lv_iload_n hx hb dX5_same_48 rfl (lv_at hl 2 rfl) ?_
      refine lv_iload_n hx hb dX5_same_49 rfl (lv_at hl 3 rfl) ?_
      refine z_callV (q0 := 0) (G := G) (As := [.int (zI (c9)), .int (zI (x)), .int (zI (y))]) (rest := []) hx hb hml hown hT hK (c_X5_sameOf l G md ma mb mc mt m1 m2 m3 m4 m5 m6 m7 cd w h cnt most rch tl nc M Y C T CA CB CN CG CS Z K (c9) (x) (y) (by omega) (hcl _ (by omega) (by omega)) (by omega) (by omega)) kc_X5_131 ⟨Nat.le_of_ble_eq_true rfl, Nat.le_of_ble_eq_true rfl⟩ ⟨rfl, rfl⟩ ⟨Nat.le_of_ble_eq_true rfl, Nat.le_of_ble_eq_true rfl⟩ hP rfl rfl rfl rfl hl.1 rfl (Nat.le_of_ble_eq_true rfl) dX5_same_50 ?_
      have hQ : mdL G md ma mb mc mt m1 m2 m3 m4 m5 m6 m7 (cSam c9 x y nc) w h cnt most rch tl nc M Y C T CA CB CN CG CS Z K = mdL G md ma mb mc mt m1 m2 m3 m4 m5 m6 m7 cd w h cnt most rch tl nc M Y C T CA CB CN CG CS Z K := by rw [← ecd] <;> (by_cases hc0 : cd = 0) <;> first | (exfalso; omega) | (simp only [if_pos hc0]; done) | (simp only [if_neg hc0]; done) | rfl
      exact z_wri () hx hb hr hlocks hK (by rw [hQ]; exact hP) (by rw [hQ]; exact hD) hS (trivial) (by rw [← ecd] <;> (by_cases hc0 : cd = 0) <;> first | (exfalso; omega) | (rw [if_pos hc0]; done) | (rw [if_neg hc0]; done)) dX5_same_53
    · skip
      refine z_iconst hx hb dX5_same_42 ?_
      refine z_goto (tgt := 53) hx hb dX5_same_43 (by decide) ?_
      have hQ : mdL G md ma mb mc mt m1 m2 m3 m4 m5 m6 m7 (cSam c9 x y nc) w h cnt most rch tl nc M Y C T CA CB CN CG CS Z K = mdL G md ma mb mc mt m1 m2 m3 m4 m5 m6 m7 cd w h cnt most rch tl nc M Y C T CA CB CN CG CS Z K := by rw [← ecd] <;> (by_cases hc0 : cd = 0) <;> first | (exfalso; omega) | (simp only [if_pos hc0]; done) | (simp only [if_neg hc0]; done) | rfl
      exact z_wri () hx hb hr hlocks hK (by rw [hQ]; exact hP) (by rw [hQ]; exact hD) hS (trivial) (by rw [← ecd] <;> (by_cases hc0 : cd = 0) <;> first | (exfalso; omega) | (rw [if_pos hc0]; done) | (rw [if_neg hc0]; done)) dX5_same_53
  intro J32
  refine lv_aload_n hx hb dX5_same_1 rfl (lv_at hl 0 rfl) ?_
  refine lv_iload_n hx hb dX5_same_2 rfl (lv_at hl 1 rfl) ?_
  refine z_callV (q0 := 0) (G := G) (As := [.int (zI (c9))]) (rest := [.ref md]) hx hb hml hown hT hK (c_X5_isCell l G md ma mb mc mt m1 m2 m3 m4 m5 m6 m7 th w h cnt most rch tl nc M Y C T CA CB CN CG CS Z K (c9) hm (by omega)) kc_X5_134 ⟨Nat.le_of_ble_eq_true rfl, Nat.le_of_ble_eq_true rfl⟩ ⟨rfl, rfl⟩ ⟨Nat.le_of_ble_eq_true rfl, Nat.le_of_ble_eq_true rfl⟩ hP rfl rfl rfl rfl hl.1 rfl (Nat.le_of_ble_eq_true rfl) dX5_same_3 ?_
  refine z_if_ne (tgt := 13) hx hb dX5_same_6 (by decide) (bI_rng _) (fun h6 => ?_) (fun h6 => ?_)
  · skip
    have h6 := bI_t.mp h6
    simp only [Bool.and_eq_true, Bool.and_eq_false_iff, Bool.or_eq_true, Bool.or_eq_false_iff, decide_eq_true_eq, decide_eq_false_iff_not] at h6
    refine lv_iload_n hx hb dX5_same_13 rfl (lv_at hl 2 rfl) ?_
    refine z_callS (G := G) (As := [.int (zI (x))]) (rest := [.ref md]) hx hb hml hown hT hK (c_X5_isNear l G (x) (by omega)) kc_X5_139 ⟨Nat.le_of_ble_eq_true rfl, Nat.le_of_ble_eq_true rfl⟩ ⟨rfl, rfl⟩ ⟨Nat.le_of_ble_eq_true rfl, Nat.le_of_ble_eq_true rfl⟩ (hP.sub [] rfl) rfl hl.1 rfl (Nat.le_of_ble_eq_true rfl) dX5_same_14 ?_
    refine z_if_eq (tgt := 27) hx hb dX5_same_17 (by decide) (bI_rng _) (fun h17 => ?_) (fun h17 => ?_)
    · skip
      have h17 := bI_f.mp h17
      simp only [Bool.and_eq_true, Bool.and_eq_false_iff, Bool.or_eq_true, Bool.or_eq_false_iff, decide_eq_true_eq, decide_eq_false_iff_not] at h17
      refine z_iconst hx hb dX5_same_27 ?_
      refine z_goto (tgt := 32) hx hb dX5_same_28 (by decide) ?_
      refine z_top (cSam c9 x y nc) (by unfold cSam; (repeat' split) <;> omega) ?_
      exact J32 (ls) _ _ ⟨trivial, lv_sub hl [0, 1, 2, 3] rfl⟩ hP hD hS
    · skip
      have h17 := bI_t.mp h17
      simp only [Bool.and_eq_true, Bool.and_eq_false_iff, Bool.or_eq_true, Bool.or_eq_false_iff, decide_eq_true_eq, decide_eq_false_iff_not] at h17
      refine lv_iload_n hx hb dX5_same_20 rfl (lv_at hl 3 rfl) ?_
      refine z_callS (G := G) (As := [.int (zI (y))]) (rest := [.ref md]) hx hb hml hown hT hK (c_X5_isNear l G (y) (by omega)) kc_X5_139 ⟨Nat.le_of_ble_eq_true rfl, Nat.le_of_ble_eq_true rfl⟩ ⟨rfl, rfl⟩ ⟨Nat.le_of_ble_eq_true rfl, Nat.le_of_ble_eq_true rfl⟩ (hP.sub [] rfl) rfl hl.1 rfl (Nat.le_of_ble_eq_true rfl) dX5_same_21 ?_
      refine z_if_ne (tgt := 31) hx hb dX5_same_24 (by decide) (bI_rng _) (fun h24 => ?_) (fun h24 => ?_)
      · skip
        have h24 := bI_t.mp h24
        simp only [Bool.and_eq_true, Bool.and_eq_false_iff, Bool.or_eq_true, Bool.or_eq_false_iff, decide_eq_true_eq, decide_eq_false_iff_not] at h24
        refine z_iconst hx hb dX5_same_31 ?_
        refine z_top (cSam c9 x y nc) (by unfold cSam; (repeat' split) <;> omega) ?_
        exact J32 (ls) _ _ ⟨trivial, lv_sub hl [0, 1, 2, 3] rfl⟩ hP hD hS
      · skip
        have h24 := bI_f.mp h24
        simp only [Bool.and_eq_true, Bool.and_eq_false_iff, Bool.or_eq_true, Bool.or_eq_false_iff, decide_eq_true_eq, decide_eq_false_iff_not] at h24
        refine z_iconst hx hb dX5_same_27 ?_
        refine z_goto (tgt := 32) hx hb dX5_same_28 (by decide) ?_
        refine z_top (cSam c9 x y nc) (by unfold cSam; (repeat' split) <;> omega) ?_
        exact J32 (ls) _ _ ⟨trivial, lv_sub hl [0, 1, 2, 3] rfl⟩ hP hD hS
  · skip
    have h6 := bI_f.mp h6
    simp only [Bool.and_eq_true, Bool.and_eq_false_iff, Bool.or_eq_true, Bool.or_eq_false_iff, decide_eq_true_eq, decide_eq_false_iff_not] at h6
    refine z_iconst hx hb dX5_same_9 ?_
    refine z_goto (tgt := 32) hx hb dX5_same_10 (by decide) ?_
    refine z_top (cSam c9 x y nc) (by unfold cSam; (repeat' split) <;> omega) ?_
    exact J32 (ls) _ _ ⟨trivial, lv_sub hl [0, 1, 2, 3] rfl⟩ hP hD hS

set_option maxHeartbeats 4000000 in
set_option maxRecDepth 100000 in
theorem c_X5_prints (l : Launch) (G : zG) (md ma mb mc mt m1 m2 m3 m4 m5 m6 m7 : Nat) (th w h cnt most rch tl nc : Int) (M Y C T CA CB CN CG CS Z K : Int → Int) (c9 k x y : Int) (hm : mdOK w h cnt most rch tl nc M Y C T CN CG CS K) (hc9 : -2147483648 ≤ c9 ∧ c9 ≤ 2147483647) (hk : -2147483648 ≤ k ∧ k ≤ 2147483647) (hx : -2147483648 ≤ x ∧ x ≤ 2147483647) (hy : -2147483648 ≤ y ∧ y ≤ 2147483647) : zWi l yX5_prints cX5_prints 5 (some .boolean) { frames := 2, cells := 0, slots := 0, locals := 49 } G [.ref md, .int (zI (c9)), .int (zI (k)), .int (zI (x)), .int (zI (y))] (mdL G md ma mb mc mt m1 m2 m3 m4 m5 m6 m7 th w h cnt most rch tl nc M Y C T CA CB CN CG CS Z K) (S := Unit) (fun u => if cPri c9 k x y nc cnt w h = 0 then (bI (decide (K (300 * c9 + (nmV (CG c9) (CN c9 / CG c9) (CS c9) x y)) < (tcV T ((PPf Y w (w * h)) (k * (w * h) + (x + w * y))) * CN c9 + 127) / 255))) else 0) (fun u => True) (fun u => mdL G md ma mb mc mt m1 m2 m3 m4 m5 m6 m7 (cPri c9 k x y nc cnt w h) w h cnt most rch tl nc M Y C T CA CB CN CG CS Z K) := by
  intro sz
  refine Met.ofW (cc := cX5_prints) (maxL := 5) (ret := (some .boolean)) (by decide) rfl ?_
  intro p e s m args below meth c s₁ B hml hv
  obtain ⟨rfl, hsz, hP, hK, hD0⟩ := hv
  have hx := B.exec
  have hb := B.bytes
  have hr := B.returns
  have hT : ∀ w ∈ TB, w.before _ s = true := fun w h => atoms_spec (ws := Cond.code yX5_prints cX5_prints 5 (some .boolean) :: TB) B.pre w (List.mem_cons_of_mem _ h)
  have hown : s.vm.findClass RX5 = some m.cls := findClass_of_methodNamed B.named
  have hlocks := B.notSynchronized
  subst hsz
  have hD := hD0.self (sz := s.heap.size)
  generalize hAe : va_A (mdL G md ma mb mc mt m1 m2 m3 m4 m5 m6 m7 th w h cnt most rch tl nc M Y C T CA CB CN CG CS Z K) s.heap.size = A at hD ⊢
  have hA : ∀ q : Nat, s.heap.size ≤ q → A q := fun q h => by rw [← hAe]; exact Or.inr h
  have hS : va_S A s.heap s.heap [] := va_S.rf
  have hP : zP G (mdL G md ma mb mc mt m1 m2 m3 m4 m5 m6 m7 th w h cnt most rch tl nc M Y C T CA CB CN CG CS Z K) s.heap := hP
  have hD : va_D A (mdL G md ma mb mc mt m1 m2 m3 m4 m5 m6 m7 th w h cnt most rch tl nc M Y C T CA CB CN CG CS Z K) := hD
  have hl := lv_entry ([.ref md, .int (zI (c9)), .int (zI (k)), .int (zI (x)), .int (zI (y))]) (n := 5) (Nat.le_of_ble_eq_true rfl)
  rw [lg_entry_eq]
  generalize (lg_sl ([.ref md, .int (zI (c9)), .int (zI (k)), .int (zI (x)), .int (zI (y))]) ++ List.replicate (5 - (lg_sl ([.ref md, .int (zI (c9)), .int (zI (k)), .int (zI (x)), .int (zI (y))])).length) Slot.unset).toArray = ls at hl ⊢
  have hl : lv_has ls 5 [(0, .ref md), (1, .int (zI (c9))), (2, .int (zI (k))), (3, .int (zI (x))), (4, .int (zI (y)))] := hl
  obtain ⟨hw, hh, hcnt, hmost, hrch, hM, hY, hC, hTb, hT0, hT5, htl, hnc, hcl, hKb⟩ := id hm
  have hpt := md_pts hm
  have hPb : ∀ j, 0 ≤ PPf Y w (w * h) j ∧ PPf Y w (w * h) j ≤ 255 := fun j => hY _
  refine lv_aload_n hx hb dX5_prints_0 rfl (lv_at hl 0 rfl) ?_
  refine z_cutH (A := A) (H0 := s.heap) (G := G) (σ := Array Slot) (fun zq => F0 m 32 (zq) [.int (zI (cPri c9 k x y nc cnt w h)), .ref md]) (fun zq => (True) ∧ lv_has (zq) 5 [(0, .ref md), (1, .int (zI (c9))), (2, .int (zI (k))), (3, .int (zI (x))), (4, .int (zI (y)))]) (fun zq => mdL G md ma mb mc mt m1 m2 m3 m4 m5 m6 m7 th w h cnt most rch tl nc M Y C T CA CB CN CG CS Z K) ?_ ?_
  · intro ls H locs hq hP hD hS
    obtain ⟨hJ, hl⟩ := hq
    try dsimp only at hJ hl hP hD ⊢
    have hP : zP G (mdL G md ma mb mc mt m1 m2 m3 m4 m5 m6 m7 th w h cnt most rch tl nc M Y C T CA CB CN CG CS Z K) H := hP
    have hD : va_D A (mdL G md ma mb mc mt m1 m2 m3 m4 m5 m6 m7 th w h cnt most rch tl nc M Y C T CA CB CN CG CS Z K) := hD
    obtain ⟨cd, ecd⟩ : ∃ z : Int, z = cPri c9 k x y nc cnt w h := ⟨_, rfl⟩
    refine z_top cd ecd.symm ?_
    have hcd : 0 ≤ cd ∧ cd ≤ 1 := by rw [ecd]; unfold cPri; (repeat' split) <;> omega
    have hcz : cd = 0 → (0 ≤ c9 ∧ c9 < nc) ∧ (0 ≤ k ∧ k < cnt) ∧ (0 ≤ x ∧ x < w) ∧ (0 ≤ y ∧ y < h) := fun h9 => by rw [ecd] at h9; revert h9; unfold cPri; (repeat' split) <;> omega
    refine pf_X5_62 (ws' := mdL G md ma mb mc mt m1 m2 m3 m4 m5 m6 m7 cd w h cnt most rch tl nc M Y C T CA CB CN CG CS Z K) hx hb hT hown hK hP hD hS 0 rfl (Nat.le_of_ble_eq_true rfl) rfl rfl rfl dX5_prints_32 (fun H locs hP hD hS => ?_)
    refine lv_aload_n hx hb dX5_prints_35 rfl (lv_at hl 0 rfl) ?_
    refine gf_X5_62 hx hb hT hown hK hP 0 rfl rfl dX5_prints_36 ?_
    refine z_if_ne (tgt := 94) hx hb dX5_prints_39 (by decide) (by omega) (fun h39 => ?_) (fun h39 => ?_)
    · skip
      refine z_iconst hx hb dX5_prints_94 ?_
      have hQ : mdL G md ma mb mc mt m1 m2 m3 m4 m5 m6 m7 (cPri c9 k x y nc cnt w h) w h cnt most rch tl nc M Y C T CA CB CN CG CS Z K = mdL G md ma mb mc mt m1 m2 m3 m4 m5 m6 m7 cd w h cnt most rch tl nc M Y C T CA CB CN CG CS Z K := by rw [← ecd] <;> (by_cases hc0 : cd = 0) <;> first | (exfalso; omega) | (simp only [if_pos hc0]; done) | (simp only [if_neg hc0]; done) | rfl
      exact z_wrz () hx hb hr hlocks hK (by rw [hQ]; exact hP) (by rw [hQ]; exact hD) hS (trivial) (by first | exact Or.inl rfl | exact Or.inr rfl) (by rw [← ecd]; first | (rw [if_pos (by omega : cd = 0)]; first | exact bI_1 h87 | exact bI_0 h87 | exact bI_1 (by omega) | exact bI_0 (by omega)) | (rw [if_neg (by omega : ¬ cd = 0)])) dX5_prints_95
    · skip
      have hk8 := hcz (by omega)
      have hci := hcl c9 (by omega) (by omega)
      have hrb := row_b hci
      obtain ⟨hg1, hn1, hs1, hgn⟩ := id hci
      have hnb := nm_b (dp := CG c9) (br := CN c9 / CG c9) (sl := CS c9) (x := x) (y := y) hg1 hrb
      have hpp := hPb (k * (w * h) + (x + w * y))
      have htc := tcV_b hTb hT0 hT5 hpp
      have hmb := mul_b (a := tcV T ((PPf Y w (w * h)) (k * (w * h) + (x + w * y)))) (b := CN c9) (A := 255) (B := 288) htc (by omega)
      have hkk := hKb (300 * c9 + (nmV (CG c9) (CN c9 / CG c9) (CS c9) x y))
      refine lv_aload_n hx hb dX5_prints_42 rfl (lv_at hl 0 rfl) ?_
      refine gf_X5_53 hx hb hT hown hK hP 0 rfl rfl dX5_prints_43 ?_
      refine z_sipush hx hb dX5_prints_46 (by decide +kernel) ?_
      refine lv_iload_n hx hb dX5_prints_49 rfl (lv_at hl 1 rfl) ?_
      refine z_imul hx hb dX5_prints_50 ?_
      refine lv_aload_n hx hb dX5_prints_51 rfl (lv_at hl 0 rfl) ?_
      refine lv_iload_n hx hb dX5_prints_52 rfl (lv_at hl 1 rfl) ?_
      refine lv_iload_n hx hb dX5_prints_53 rfl (lv_at hl 3 rfl) ?_
      refine lv_iload hx hb dX5_prints_54 (lv_at hl 4 rfl) ?_
      refine z_callV (q0 := 0) (G := G) (As := [.int (zI (c9)), .int (zI (x)), .int (zI (y))]) (rest := [.int (zI ((300 * c9))), .ref m7]) hx hb hml hown hT hK (c_X5_sameOf l G md ma mb mc mt m1 m2 m3 m4 m5 m6 m7 cd w h cnt most rch tl nc M Y C T CA CB CN CG CS Z K (c9) (x) (y) (by omega) (hcl _ (by omega) (by omega)) (by omega) (by omega)) kc_X5_131 ⟨Nat.le_of_ble_eq_true rfl, Nat.le_of_ble_eq_true rfl⟩ ⟨rfl, rfl⟩ ⟨Nat.le_of_ble_eq_true rfl, Nat.le_of_ble_eq_true rfl⟩ hP rfl rfl rfl rfl hl.1 rfl (Nat.le_of_ble_eq_true rfl) dX5_prints_56 ?_
      refine z_iadd hx hb dX5_prints_59 ?_
      refine z_iald hx hb hK hP 11 rfl (⟨by omega, by omega, by omega⟩) dX5_prints_60 ?_
      refine lv_aload_n hx hb dX5_prints_61 rfl (lv_at hl 0 rfl) ?_
      refine lv_aload_n hx hb dX5_prints_62 rfl (lv_at hl 0 rfl) ?_
      refine lv_iload_n hx hb dX5_prints_63 rfl (lv_at hl 3 rfl) ?_
      refine lv_iload hx hb dX5_prints_64 (lv_at hl 4 rfl) ?_
      refine lv_iload_n hx hb dX5_prints_66 rfl (lv_at hl 2 rfl) ?_
      refine z_callV (q0 := 0) (G := G) (As := [.int (zI (x)), .int (zI (y)), .int (zI (k))]) (rest := [.ref md, .int (zI ((K ((300 * c9) + (nmV (CG c9) (CN c9 / CG c9) (CS c9) x y)))))]) hx hb hml hown hT hK (c_X5_byteAt l G md ma mb mc mt m1 m2 m3 m4 m5 m6 m7 cd w h cnt most rch tl nc M Y C T CA CB CN CG CS Z K (x) (y) (k) hm (by omega) (by omega) (by omega)) kc_X5_87 ⟨Nat.le_of_ble_eq_true rfl, Nat.le_of_ble_eq_true rfl⟩ ⟨rfl, rfl⟩ ⟨Nat.le_of_ble_eq_true rfl, Nat.le_of_ble_eq_true rfl⟩ hP rfl rfl rfl rfl hl.1 rfl (Nat.le_of_ble_eq_true rfl) dX5_prints_67 ?_
      refine z_callV (q0 := 0) (G := G) (As := [.int (zI (((PPf Y w (w * h)) (k * (w * h) + (x + w * y)))))]) (rest := [.int (zI ((K ((300 * c9) + (nmV (CG c9) (CN c9 / CG c9) (CS c9) x y)))))]) hx hb hml hown hT hK (c_X5_curve l G md ma mb mc mt m1 m2 m3 m4 m5 m6 m7 cd w h cnt most rch tl nc M Y C T CA CB CN CG CS Z K (((PPf Y w (w * h)) (k * (w * h) + (x + w * y)))) hm (by omega)) kc_X5_113 ⟨Nat.le_of_ble_eq_true rfl, Nat.le_of_ble_eq_true rfl⟩ ⟨rfl, rfl⟩ ⟨Nat.le_of_ble_eq_true rfl, Nat.le_of_ble_eq_true rfl⟩ hP rfl rfl rfl rfl hl.1 rfl (Nat.le_of_ble_eq_true rfl) dX5_prints_70 ?_
      refine lv_aload_n hx hb dX5_prints_73 rfl (lv_at hl 0 rfl) ?_
      refine gf_X5_41 hx hb hT hown hK hP 0 rfl rfl dX5_prints_74 ?_
      refine lv_iload_n hx hb dX5_prints_77 rfl (lv_at hl 1 rfl) ?_
      refine z_iald hx hb hK hP 7 rfl (⟨by omega, by omega, by omega⟩) dX5_prints_78 ?_
      refine z_imul hx hb dX5_prints_79 ?_
      refine z_bipush hx hb dX5_prints_80 (by decide +kernel) ?_
      refine z_iadd hx hb dX5_prints_82 ?_
      refine z_sipush hx hb dX5_prints_83 (by decide +kernel) ?_
      refine z_idiv hx hb dX5_prints_86 (by omega) (by omega) ?_
      refine z_icmp_ge (tgt := 94) hx hb dX5_prints_87 (by decide) (by omega) (by omega) (fun h87 => ?_) (fun h87 => ?_)
      · skip
        refine z_iconst hx hb dX5_prints_94 ?_
        have hQ : mdL G md ma mb mc mt m1 m2 m3 m4 m5 m6 m7 (cPri c9 k x y nc cnt w h) w h cnt most rch tl nc M Y C T CA CB CN CG CS Z K = mdL G md ma mb mc mt m1 m2 m3 m4 m5 m6 m7 cd w h cnt most rch tl nc M Y C T CA CB CN CG CS Z K := by rw [← ecd] <;> (by_cases hc0 : cd = 0) <;> first | (exfalso; omega) | (simp only [if_pos hc0]; done) | (simp only [if_neg hc0]; done) | rfl
        exact z_wrz () hx hb hr hlocks hK (by rw [hQ]; exact hP) (by rw [hQ]; exact hD) hS (trivial) (by first | exact Or.inl rfl | exact Or.inr rfl) (by rw [← ecd]; first | (rw [if_pos (by omega : cd = 0)]; first | exact bI_1 h87 | exact bI_0 h87 | exact bI_1 (by omega) | exact bI_0 (by omega)) | (rw [if_neg (by omega : ¬ cd = 0)])) dX5_prints_95
      · skip
        refine z_iconst hx hb dX5_prints_90 ?_
        refine z_goto (tgt := 95) hx hb dX5_prints_91 (by decide) ?_
        have hQ : mdL G md ma mb mc mt m1 m2 m3 m4 m5 m6 m7 (cPri c9 k x y nc cnt w h) w h cnt most rch tl nc M Y C T CA CB CN CG CS Z K = mdL G md ma mb mc mt m1 m2 m3 m4 m5 m6 m7 cd w h cnt most rch tl nc M Y C T CA CB CN CG CS Z K := by rw [← ecd] <;> (by_cases hc0 : cd = 0) <;> first | (exfalso; omega) | (simp only [if_pos hc0]; done) | (simp only [if_neg hc0]; done) | rfl
        exact z_wrz () hx hb hr hlocks hK (by rw [hQ]; exact hP) (by rw [hQ]; exact hD) hS (trivial) (by first | exact Or.inl rfl | exact Or.inr rfl) (by rw [← ecd]; first | (rw [if_pos (by omega : cd = 0)]; first | exact bI_1 h87 | exact bI_0 h87 | exact bI_1 (by omega) | exact bI_0 (by omega)) | (rw [if_neg (by omega : ¬ cd = 0)])) dX5_prints_95
  intro J32
  refine lv_aload_n hx hb dX5_prints_1 rfl (lv_at hl 0 rfl) ?_
  refine lv_iload_n hx hb dX5_prints_2 rfl (lv_at hl 1 rfl) ?_
  refine z_callV (q0 := 0) (G := G) (As := [.int (zI (c9))]) (rest := [.ref md]) hx hb hml hown hT hK (c_X5_isCell l G md ma mb mc mt m1 m2 m3 m4 m5 m6 m7 th w h cnt most rch tl nc M Y C T CA CB CN CG CS Z K (c9) hm (by omega)) kc_X5_134 ⟨Nat.le_of_ble_eq_true rfl, Nat.le_of_ble_eq_true rfl⟩ ⟨rfl, rfl⟩ ⟨Nat.le_of_ble_eq_true rfl, Nat.le_of_ble_eq_true rfl⟩ hP rfl rfl rfl rfl hl.1 rfl (Nat.le_of_ble_eq_true rfl) dX5_prints_3 ?_
  refine z_if_eq (tgt := 31) hx hb dX5_prints_6 (by decide) (bI_rng _) (fun h6 => ?_) (fun h6 => ?_)
  · skip
    have h6 := bI_f.mp h6
    simp only [Bool.and_eq_true, Bool.and_eq_false_iff, Bool.or_eq_true, Bool.or_eq_false_iff, decide_eq_true_eq, decide_eq_false_iff_not] at h6
    refine z_iconst hx hb dX5_prints_31 ?_
    refine z_top (cPri c9 k x y nc cnt w h) (by unfold cPri; (repeat' split) <;> omega) ?_
    exact J32 (ls) _ _ ⟨trivial, lv_sub hl [0, 1, 2, 3, 4] rfl⟩ hP hD hS
  · skip
    have h6 := bI_t.mp h6
    simp only [Bool.and_eq_true, Bool.and_eq_false_iff, Bool.or_eq_true, Bool.or_eq_false_iff, decide_eq_true_eq, decide_eq_false_iff_not] at h6
    refine lv_aload_n hx hb dX5_prints_9 rfl (lv_at hl 0 rfl) ?_
    refine lv_iload_n hx hb dX5_prints_10 rfl (lv_at hl 2 rfl) ?_
    refine z_callV (q0 := 0) (G := G) (As := [.int (zI (k))]) (rest := [.ref md]) hx hb hml hown hT hK (c_X5_isInk l G md ma mb mc mt m1 m2 m3 m4 m5 m6 m7 th w h cnt most rch tl nc M Y C T CA CB CN CG CS Z K (k) hm (by omega)) kc_X5_69 ⟨Nat.le_of_ble_eq_true rfl, Nat.le_of_ble_eq_true rfl⟩ ⟨rfl, rfl⟩ ⟨Nat.le_of_ble_eq_true rfl, Nat.le_of_ble_eq_true rfl⟩ hP rfl rfl rfl rfl hl.1 rfl (Nat.le_of_ble_eq_true rfl) dX5_prints_11 ?_
    refine z_if_eq (tgt := 31) hx hb dX5_prints_14 (by decide) (bI_rng _) (fun h14 => ?_) (fun h14 => ?_)
    · skip
      have h14 := bI_f.mp h14
      simp only [Bool.and_eq_true, Bool.and_eq_false_iff, Bool.or_eq_true, Bool.or_eq_false_iff, decide_eq_true_eq, decide_eq_false_iff_not] at h14
      refine z_iconst hx hb dX5_prints_31 ?_
      refine z_top (cPri c9 k x y nc cnt w h) (by unfold cPri; (repeat' split) <;> omega) ?_
      exact J32 (ls) _ _ ⟨trivial, lv_sub hl [0, 1, 2, 3, 4] rfl⟩ hP hD hS
    · skip
      have h14 := bI_t.mp h14
      simp only [Bool.and_eq_true, Bool.and_eq_false_iff, Bool.or_eq_true, Bool.or_eq_false_iff, decide_eq_true_eq, decide_eq_false_iff_not] at h14
      refine lv_aload_n hx hb dX5_prints_17 rfl (lv_at hl 0 rfl) ?_
      refine lv_iload_n hx hb dX5_prints_18 rfl (lv_at hl 3 rfl) ?_
      refine lv_iload hx hb dX5_prints_19 (lv_at hl 4 rfl) ?_
      refine z_callV (q0 := 0) (G := G) (As := [.int (zI (x)), .int (zI (y))]) (rest := [.ref md]) hx hb hml hown hT hK (c_X5_isPoint l G md ma mb mc mt m1 m2 m3 m4 m5 m6 m7 th w h cnt most rch tl nc M Y C T CA CB CN CG CS Z K (x) (y) hm (by omega) (by omega)) kc_X5_106 ⟨Nat.le_of_ble_eq_true rfl, Nat.le_of_ble_eq_true rfl⟩ ⟨rfl, rfl⟩ ⟨Nat.le_of_ble_eq_true rfl, Nat.le_of_ble_eq_true rfl⟩ hP rfl rfl rfl rfl hl.1 rfl (Nat.le_of_ble_eq_true rfl) dX5_prints_21 ?_
      refine z_if_eq (tgt := 31) hx hb dX5_prints_24 (by decide) (bI_rng _) (fun h24 => ?_) (fun h24 => ?_)
      · skip
        have h24 := bI_f.mp h24
        simp only [Bool.and_eq_true, Bool.and_eq_false_iff, Bool.or_eq_true, Bool.or_eq_false_iff, decide_eq_true_eq, decide_eq_false_iff_not] at h24
        refine z_iconst hx hb dX5_prints_31 ?_
        refine z_top (cPri c9 k x y nc cnt w h) (by unfold cPri; (repeat' split) <;> omega) ?_
        exact J32 (ls) _ _ ⟨trivial, lv_sub hl [0, 1, 2, 3, 4] rfl⟩ hP hD hS
      · skip
        have h24 := bI_t.mp h24
        simp only [Bool.and_eq_true, Bool.and_eq_false_iff, Bool.or_eq_true, Bool.or_eq_false_iff, decide_eq_true_eq, decide_eq_false_iff_not] at h24
        refine z_iconst hx hb dX5_prints_27 ?_
        refine z_goto (tgt := 32) hx hb dX5_prints_28 (by decide) ?_
        refine z_top (cPri c9 k x y nc cnt w h) (by unfold cPri; (repeat' split) <;> omega) ?_
        exact J32 (ls) _ _ ⟨trivial, lv_sub hl [0, 1, 2, 3, 4] rfl⟩ hP hD hS

/-! ===== the reference's bytes of a point ===== -/
def YS (Y : Int → Int) (q : Int) (b : Int → Int) : Int → Int := fun j => if 8 * q ≤ j ∧ j < 8 * q + 8 then b (j - 8 * q) else Y j
def colY (Y : Int → Int) (q : Int) : Int → Int := fun k => Y (8 * q + k)
theorem YS_at (Y : Int → Int) {q k : Int} (b : Int → Int) (hk : 0 ≤ k ∧ k < 8) : YS Y q b (8 * q + k) = b k := by
  unfold YS; rw [if_pos (by omega), show 8 * q + k - 8 * q = k by omega]
theorem YS_up (Y : Int → Int) {q k : Int} (b : Int → Int) (v : Int) (hk : 0 ≤ k ∧ k < 8) : zu (YS Y q b) (8 * q + k) v = YS Y q (zu b k v) := by
  funext j
  show (if j = 8 * q + k then v else (if 8 * q ≤ j ∧ j < 8 * q + 8 then b (j - 8 * q) else Y j)) = (if 8 * q ≤ j ∧ j < 8 * q + 8 then (if j - 8 * q = k then v else b (j - 8 * q)) else Y j)
  by_cases e : j = 8 * q + k
  · rw [if_pos e, if_pos (by omega), if_pos (by omega)]
  · rw [if_neg e]
    by_cases c : 8 * q ≤ j ∧ j < 8 * q + 8
    · rw [if_pos c, if_pos c, if_neg (by omega)]
    · rw [if_neg c, if_neg c]
theorem YS_self (Y : Int → Int) {q : Int} : YS Y q (colY Y q) = Y := by
  funext j
  unfold YS colY
  by_cases c : 8 * q ≤ j ∧ j < 8 * q + 8
  · rw [if_pos c, show 8 * q + (j - 8 * q) = j by omega]
  · rw [if_neg c]
theorem YS_YS (Y : Int → Int) {q : Int} (b b' : Int → Int) : YS (YS Y q b) q b' = YS Y q b' := by
  funext j
  by_cases c : 8 * q ≤ j ∧ j < 8 * q + 8
  · unfold YS; rw [if_pos c, if_pos c]
  · unfold YS; rw [if_neg c, if_neg c, if_neg c]
theorem YS_ext (Y : Int → Int) {q : Int} {b b' : Int → Int} (h : ∀ k, 0 ≤ k → k < 8 → b k = b' k) : YS Y q b = YS Y q b' := by
  funext j
  unfold YS
  by_cases c : 8 * q ≤ j ∧ j < 8 * q + 8
  · rw [if_pos c, if_pos c]; exact h _ (by omega) (by omega)
  · rw [if_neg c, if_neg c]
theorem YS_b {Y : Int → Int} {q : Int} {b : Int → Int} (hB : ∀ j, 0 ≤ Y j ∧ Y j ≤ 255) (hb : ∀ k, 0 ≤ k → k < 8 → 0 ≤ b k ∧ b k ≤ 255) : ∀ j, 0 ≤ YS Y q b j ∧ YS Y q b j ≤ 255 := by
  intro j
  unfold YS
  by_cases c : 8 * q ≤ j ∧ j < 8 * q + 8
  · rw [if_pos c]; exact hb _ (by omega) (by omega)
  · rw [if_neg c]; exact hB j
theorem mdOK_Y {w h cnt most rch tl nc : Int} {M Y Y' C T CN CG CS K : Int → Int} (hm : mdOK w h cnt most rch tl nc M Y C T CN CG CS K) (h9 : ∀ j, 0 ≤ Y' j ∧ Y' j ≤ 255) : mdOK w h cnt most rch tl nc M Y' C T CN CG CS K := by
  obtain ⟨a1, a2, a3, a4, a5, a6, a7, a8, a9⟩ := hm
  exact ⟨a1, a2, a3, a4, a5, a6, h9, a8, a9⟩
def bdF (b : Int → Int) (most : Int) : Int → Int := if zsum b 8 ≤ most then b else shrF (mvF b (zsum b 8 - most)) 8 most
theorem shK_w (b : Int → Int) (rm ot : Int) {k : Int} (h : 0 ≤ k) : zu (shK b rm ot k) k (if k = 3 then b k else b k * rm / ot) = shK b rm ot (k + 1) := by
  funext j; unfold zu shK
  by_cases e : j = k
  · rw [if_pos e, e]
    by_cases c : k = 3
    · rw [if_pos c, if_neg (by omega)]
    · rw [if_neg c, if_pos (by omega)]
  · rw [if_neg e]
    by_cases c : 0 ≤ j ∧ j < k ∧ j ≠ 3
    · rw [if_pos c, if_pos (by omega)]
    · rw [if_neg c, if_neg (by omega)]
theorem mvR_3e (b : Int → Int) (ex : Int) : mvR b ex 3 = min (min (min (min ((ex + 1) / 2) (255 - b 3)) (b 0)) (b 1)) (b 2) := rfl

set_option maxHeartbeats 4000000 in
set_option maxRecDepth 100000 in
theorem c_X5_bind (l : Launch) (G : zG) (md ma mb mc mt m1 m2 m3 m4 m5 m6 m7 : Nat) (th w h cnt most rch tl nc : Int) (M Y C T CA CB CN CG CS Z K : Int → Int) (q : Int) (hm : mdOK w h cnt most rch tl nc M Y C T CN CG CS K) (hq : 0 ≤ q ∧ q < 192) : zWv l yX5_bind cX5_bind 8 { frames := 1, cells := 0, slots := 0, locals := 23 } G [.ref md, .int (zI (q))] (mdL G md ma mb mc mt m1 m2 m3 m4 m5 m6 m7 th w h cnt most rch tl nc M Y C T CA CB CN CG CS Z K) (S := Unit) (fun u => True) (fun u => mdL G md ma mb mc mt m1 m2 m3 m4 m5 m6 m7 th w h cnt most rch tl nc M (YS Y q (bdF (colY Y q) most)) C T CA CB CN CG CS Z K) := by
  intro sz
  refine Met.ofW (cc := cX5_bind) (maxL := 8) (ret := none) (by decide) rfl ?_
  intro p e s m args below meth c s₁ B hml hv
  obtain ⟨rfl, hsz, hP, hK, hD0⟩ := hv
  have hx := B.exec
  have hb := B.bytes
  have hr := B.returns
  have hT : ∀ w ∈ TB, w.before _ s = true := fun w h => atoms_spec (ws := Cond.code yX5_bind cX5_bind 8 none :: TB) B.pre w (List.mem_cons_of_mem _ h)
  have hown : s.vm.findClass RX5 = some m.cls := findClass_of_methodNamed B.named
  have hlocks := B.notSynchronized
  subst hsz
  have hD := hD0.self (sz := s.heap.size)
  generalize hAe : va_A (mdL G md ma mb mc mt m1 m2 m3 m4 m5 m6 m7 th w h cnt most rch tl nc M Y C T CA CB CN CG CS Z K) s.heap.size = A at hD ⊢
  have hA : ∀ q : Nat, s.heap.size ≤ q → A q := fun q h => by rw [← hAe]; exact Or.inr h
  have hS : va_S A s.heap s.heap [] := va_S.rf
  have hP : zP G (mdL G md ma mb mc mt m1 m2 m3 m4 m5 m6 m7 th w h cnt most rch tl nc M Y C T CA CB CN CG CS Z K) s.heap := hP
  have hD : va_D A (mdL G md ma mb mc mt m1 m2 m3 m4 m5 m6 m7 th w h cnt most rch tl nc M Y C T CA CB CN CG CS Z K) := hD
  have hl := lv_entry ([.ref md, .int (zI (q))]) (n := 8) (Nat.le_of_ble_eq_true rfl)
  rw [lg_entry_eq]
  generalize (lg_sl ([.ref md, .int (zI (q))]) ++ List.replicate (8 - (lg_sl ([.ref md, .int (zI (q))])).length) Slot.unset).toArray = ls at hl ⊢
  have hl : lv_has ls 8 [(0, .ref md), (1, .int (zI (q)))] := hl
  obtain ⟨hw, hh, hcnt, hmost, hrch, hM, hY, hC, hTb, hT0, hT5, htl, hnc, hcl, hKb⟩ := id hm
  have hpt := md_pts hm
  have hPb : ∀ j, 0 ≤ PPf Y w (w * h) j ∧ PPf Y w (w * h) j ≤ 255 := fun j => hY _
  have hcb : ∀ k, 0 ≤ k → k < 8 → 0 ≤ (colY Y q) k ∧ (colY Y q) k ≤ 255 := fun k _ _ => hY _
  have hsb := pt_sum (b := (colY Y q)) (cnt := 8) (by omega) hcb
  have hsb : 0 ≤ zsum (colY Y q) 8 ∧ zsum (colY Y q) 8 ≤ 2040 := hsb
  refine lv_aload_n hx hb dX5_bind_0 rfl (lv_at hl 0 rfl) ?_
  refine lv_iload_n hx hb dX5_bind_1 rfl (lv_at hl 1 rfl) ?_
  refine z_callV (q0 := 0) (G := G) (As := [.int (zI (q))]) (rest := []) hx hb hml hown hT hK (c_X5_sumAt l G md ma mb mc mt m1 m2 m3 m4 m5 m6 m7 th w h cnt most rch tl nc M Y C T CA CB CN CG CS Z K (q) hm (by omega)) kc_X5_72 ⟨Nat.le_of_ble_eq_true rfl, Nat.le_of_ble_eq_true rfl⟩ ⟨rfl, rfl⟩ ⟨Nat.le_of_ble_eq_true rfl, Nat.le_of_ble_eq_true rfl⟩ hP rfl rfl rfl rfl hl.1 rfl (Nat.le_of_ble_eq_true rfl) dX5_bind_2 ?_
  refine z_top ((zsum (colY Y q) 8)) (rfl) ?_
  refine lv_istore_n (lv' := [(2, .int (zI ((zsum (colY Y q) 8)))), (0, .ref md), (1, .int (zI (q)))]) hx hb dX5_bind_5 rfl hl (by decide) rfl (fun ls hl => ?_)
  refine lv_iload_n hx hb dX5_bind_6 rfl (lv_at hl 0 rfl) ?_
  refine lv_aload_n hx hb dX5_bind_7 rfl (lv_at hl 1 rfl) ?_
  refine gf_X5_23 hx hb hT hown hK hP 0 rfl rfl dX5_bind_8 ?_
  refine z_icmp_gt (tgt := 15) hx hb dX5_bind_11 (by decide) (by omega) (by omega) (fun h11 => ?_) (fun h11 => ?_)
  · skip
    have hex : 0 < (zsum (colY Y q) 8 - most) ∧ (zsum (colY Y q) 8 - most) ≤ 3000 := by omega
    have hm3 := mvR_3 (b := (colY Y q)) (ex := (zsum (colY Y q) 8 - most))
    have hmb := mvR_b hcb hex 3 (by omega)
    have e0 : (colY Y q) 0 = Y (8 * q) := by unfold colY; rw [Int.add_zero]
    have e1 : (colY Y q) 1 = Y (8 * q + 1) := rfl
    have e2 : (colY Y q) 2 = Y (8 * q + 2) := rfl
    have e3 : (colY Y q) 3 = Y (8 * q + 3) := rfl
    have hy0 := hcb 0 (by omega) (by omega)
    have hy1 := hcb 1 (by omega) (by omega)
    have hy2 := hcb 2 (by omega) (by omega)
    have hy3 := hcb 3 (by omega) (by omega)
    have hfe := mvR_3e (colY Y q) (zsum (colY Y q) 8 - most)
    have hfb := mvF_b hcb hex
    have hs2 := pt_sum (b := (mvF (colY Y q) (zsum (colY Y q) 8 - most))) (cnt := 8) (by omega) hfb
    have hs2 : 0 ≤ (zsum (mvF (colY Y q) (zsum (colY Y q) 8 - most)) 8) ∧ (zsum (mvF (colY Y q) (zsum (colY Y q) 8 - most)) 8) ≤ 2040 := hs2
    refine z_bipush hx hb dX5_bind_15 (by decide +kernel) ?_
    refine lv_iload_n hx hb dX5_bind_17 rfl (lv_at hl 2 rfl) ?_
    refine z_imul hx hb dX5_bind_18 ?_
    refine lv_istore_n (lv' := [(3, .int (zI ((8 * q)))), (2, .int (zI ((zsum (colY Y q) 8)))), (0, .ref md), (1, .int (zI (q)))]) hx hb dX5_bind_19 rfl hl (by decide) rfl (fun ls hl => ?_)
    refine lv_iload_n hx hb dX5_bind_20 rfl (lv_at hl 1 rfl) ?_
    refine lv_aload_n hx hb dX5_bind_21 rfl (lv_at hl 2 rfl) ?_
    refine gf_X5_23 hx hb hT hown hK hP 0 rfl rfl dX5_bind_22 ?_
    refine z_isub hx hb dX5_bind_25 ?_
    refine z_iconst hx hb dX5_bind_26 ?_
    refine z_iadd hx hb dX5_bind_27 ?_
    refine z_iconst hx hb dX5_bind_28 ?_
    refine z_idiv hx hb dX5_bind_29 (by omega) (by omega) ?_
    refine lv_aload_n hx hb dX5_bind_30 rfl (lv_at hl 2 rfl) ?_
    refine gf_X5_17 hx hb hT hown hK hP 0 rfl rfl dX5_bind_31 ?_
    refine lv_iload_n hx hb dX5_bind_34 rfl (lv_at hl 0 rfl) ?_
    refine z_iald hx hb hK hP 2 rfl (⟨by omega, by omega, by omega⟩) dX5_bind_35 ?_
    refine lv_aload_n hx hb dX5_bind_36 rfl (lv_at hl 2 rfl) ?_
    refine gf_X5_17 hx hb hT hown hK hP 0 rfl rfl dX5_bind_37 ?_
    refine lv_iload_n hx hb dX5_bind_40 rfl (lv_at hl 0 rfl) ?_
    refine z_iconst hx hb dX5_bind_41 ?_
    refine z_iadd hx hb dX5_bind_42 ?_
    refine z_iald hx hb hK hP 2 rfl (⟨by omega, by omega, by omega⟩) dX5_bind_43 ?_
    refine lv_aload_n hx hb dX5_bind_44 rfl (lv_at hl 2 rfl) ?_
    refine gf_X5_17 hx hb hT hown hK hP 0 rfl rfl dX5_bind_45 ?_
    refine lv_iload_n hx hb dX5_bind_48 rfl (lv_at hl 0 rfl) ?_
    refine z_iconst hx hb dX5_bind_49 ?_
    refine z_iadd hx hb dX5_bind_50 ?_
    refine z_iald hx hb hK hP 2 rfl (⟨by omega, by omega, by omega⟩) dX5_bind_51 ?_
    refine z_sipush hx hb dX5_bind_52 (by decide +kernel) ?_
    refine lv_aload_n hx hb dX5_bind_55 rfl (lv_at hl 2 rfl) ?_
    refine gf_X5_17 hx hb hT hown hK hP 0 rfl rfl dX5_bind_56 ?_
    refine lv_iload_n hx hb dX5_bind_59 rfl (lv_at hl 0 rfl) ?_
    refine z_iconst hx hb dX5_bind_60 ?_
    refine z_iadd hx hb dX5_bind_61 ?_
    refine z_iald hx hb hK hP 2 rfl (⟨by omega, by omega, by omega⟩) dX5_bind_62 ?_
    refine z_isub hx hb dX5_bind_63 ?_
    refine z_callS (G := G) (As := [.int (zI ((Y ((8 * q) + 2)))), .int (zI ((255 - (Y ((8 * q) + 3)))))]) (rest := [.int (zI ((Y ((8 * q) + 1)))), .int (zI ((Y (8 * q)))), .int (zI (((((zsum (colY Y q) 8) - most) + 1) / 2)))]) hx hb hml hown hT hK (c_X5_less l G ((Y ((8 * q) + 2))) ((255 - (Y ((8 * q) + 3)))) (by omega) (by omega)) kc_X5_76 ⟨Nat.le_of_ble_eq_true rfl, Nat.le_of_ble_eq_true rfl⟩ ⟨rfl, rfl⟩ ⟨Nat.le_of_ble_eq_true rfl, Nat.le_of_ble_eq_true rfl⟩ (hP.sub [] rfl) rfl hl.1 rfl (Nat.le_of_ble_eq_true rfl) dX5_bind_64 ?_
    refine z_callS (G := G) (As := [.int (zI ((Y ((8 * q) + 1)))), .int (zI ((min (Y ((8 * q) + 2)) (255 - (Y ((8 * q) + 3))))))]) (rest := [.int (zI ((Y (8 * q)))), .int (zI (((((zsum (colY Y q) 8) - most) + 1) / 2)))]) hx hb hml hown hT hK (c_X5_less l G ((Y ((8 * q) + 1))) ((min (Y ((8 * q) + 2)) (255 - (Y ((8 * q) + 3))))) (by omega) (by omega)) kc_X5_76 ⟨Nat.le_of_ble_eq_true rfl, Nat.le_of_ble_eq_true rfl⟩ ⟨rfl, rfl⟩ ⟨Nat.le_of_ble_eq_true rfl, Nat.le_of_ble_eq_true rfl⟩ (hP.sub [] rfl) rfl hl.1 rfl (Nat.le_of_ble_eq_true rfl) dX5_bind_67 ?_
    refine z_callS (G := G) (As := [.int (zI ((Y (8 * q)))), .int (zI ((min (Y ((8 * q) + 1)) (min (Y ((8 * q) + 2)) (255 - (Y ((8 * q) + 3)))))))]) (rest := [.int (zI (((((zsum (colY Y q) 8) - most) + 1) / 2)))]) hx hb hml hown hT hK (c_X5_less l G ((Y (8 * q))) ((min (Y ((8 * q) + 1)) (min (Y ((8 * q) + 2)) (255 - (Y ((8 * q) + 3)))))) (by omega) (by omega)) kc_X5_76 ⟨Nat.le_of_ble_eq_true rfl, Nat.le_of_ble_eq_true rfl⟩ ⟨rfl, rfl⟩ ⟨Nat.le_of_ble_eq_true rfl, Nat.le_of_ble_eq_true rfl⟩ (hP.sub [] rfl) rfl hl.1 rfl (Nat.le_of_ble_eq_true rfl) dX5_bind_70 ?_
    refine z_callS (G := G) (As := [.int (zI (((((zsum (colY Y q) 8) - most) + 1) / 2))), .int (zI ((min (Y (8 * q)) (min (Y ((8 * q) + 1)) (min (Y ((8 * q) + 2)) (255 - (Y ((8 * q) + 3))))))))]) (rest := []) hx hb hml hown hT hK (c_X5_less l G (((((zsum (colY Y q) 8) - most) + 1) / 2)) ((min (Y (8 * q)) (min (Y ((8 * q) + 1)) (min (Y ((8 * q) + 2)) (255 - (Y ((8 * q) + 3))))))) (by omega) (by omega)) kc_X5_76 ⟨Nat.le_of_ble_eq_true rfl, Nat.le_of_ble_eq_true rfl⟩ ⟨rfl, rfl⟩ ⟨Nat.le_of_ble_eq_true rfl, Nat.le_of_ble_eq_true rfl⟩ (hP.sub [] rfl) rfl hl.1 rfl (Nat.le_of_ble_eq_true rfl) dX5_bind_73 ?_
    refine z_top ((mvR (colY Y q) (zsum (colY Y q) 8 - most) 3)) (by omega) ?_
    refine lv_istore (lv' := [(4, .int (zI ((mvR (colY Y q) (zsum (colY Y q) 8 - most) 3)))), (3, .int (zI ((8 * q)))), (2, .int (zI ((zsum (colY Y q) 8)))), (0, .ref md), (1, .int (zI (q)))]) hx hb dX5_bind_76 hl (by decide) rfl (fun ls hl => ?_)
    refine z_iconst hx hb dX5_bind_78 ?_
    refine lv_istore (lv' := [(5, .int (zI (0))), (4, .int (zI ((mvR (colY Y q) (zsum (colY Y q) 8 - most) 3)))), (3, .int (zI ((8 * q)))), (2, .int (zI ((zsum (colY Y q) 8)))), (0, .ref md), (1, .int (zI (q)))]) hx hb dX5_bind_79 hl (by decide) rfl (fun ls hl => ?_)
    rw [show Y = YS Y q (mvK (colY Y q) (mvR (colY Y q) (zsum (colY Y q) 8 - most) 3) 0) by rw [mvK_0, YS_self]] at hP hD
    refine z_loopH (σ := Int × Array Slot) (fun zq => F0 m 81 (zq.2) []) (fun zq => (0 ≤ zq.1 ∧ zq.1 ≤ 3) ∧ lv_has (zq.2) 8 [(0, .ref md), (1, .int (zI (q))), (3, .int (zI ((8 * q)))), (4, .int (zI ((mvR (colY Y q) (zsum (colY Y q) 8 - most) 3)))), (5, .int (zI (zq.1)))]) (fun zq => mdL G md ma mb mc mt m1 m2 m3 m4 m5 m6 m7 th w h cnt most rch tl nc M (YS Y q (mvK (colY Y q) (mvR (colY Y q) (zsum (colY Y q) 8 - most) 3) zq.1)) C T CA CB CN CG CS Z K) (fun zq => (3 - zq.1).toNat) ?_ (0, ls) ⟨by refine ⟨?_, ?_⟩ <;> omega, lv_sub hl [4, 5, 2, 1, 0] rfl⟩ hP hD hS
    intro zq H locs hq hP hD hS ih
    obtain ⟨k, ls⟩ := zq
    obtain ⟨hI, hl⟩ := hq
    try dsimp only at hI hl ih hP hD ⊢
    have hP : zP G (mdL G md ma mb mc mt m1 m2 m3 m4 m5 m6 m7 th w h cnt most rch tl nc M (YS Y q (mvK (colY Y q) (mvR (colY Y q) (zsum (colY Y q) 8 - most) 3) k)) C T CA CB CN CG CS Z K) H := hP
    have hD : va_D A (mdL G md ma mb mc mt m1 m2 m3 m4 m5 m6 m7 th w h cnt most rch tl nc M (YS Y q (mvK (colY Y q) (mvR (colY Y q) (zsum (colY Y q) 8 - most) 3) k)) C T CA CB CN CG CS Z K) := hD
    have ih81 := ih
    refine lv_iload hx hb dX5_bind_81 (lv_at hl 4 rfl) ?_
    refine z_iconst hx hb dX5_bind_83 ?_
    refine z_icmp_ge (tgt := 114) hx hb dX5_bind_84 (by decide) (by omega) (by omega) (fun h84 => ?_) (fun h84 => ?_)
    · skip
      have hk4 : k = 3 := by omega
      rw [hk4] at hP hD
      refine lv_aload_n hx hb dX5_bind_114 rfl (lv_at hl 0 rfl) ?_
      refine gf_X5_17 hx hb hT hown hK hP 0 rfl rfl dX5_bind_115 ?_
      refine lv_iload_n hx hb dX5_bind_118 rfl (lv_at hl 2 rfl) ?_
      refine z_iconst hx hb dX5_bind_119 ?_
      refine z_iadd hx hb dX5_bind_120 ?_
      refine lv_aload_n hx hb dX5_bind_121 rfl (lv_at hl 0 rfl) ?_
      refine gf_X5_17 hx hb hT hown hK hP 0 rfl rfl dX5_bind_122 ?_
      refine lv_iload_n hx hb dX5_bind_125 rfl (lv_at hl 2 rfl) ?_
      refine z_iconst hx hb dX5_bind_126 ?_
      refine z_iadd hx hb dX5_bind_127 ?_
      refine z_iald hx hb hK hP 2 rfl (⟨by omega, by omega, by omega⟩) dX5_bind_128 ?_
      refine z_top (((colY Y q) 3)) (by rw [YS_at _ _ (by omega)]; unfold mvK; rw [if_neg (by omega)]) ?_
      refine lv_iload hx hb dX5_bind_129 (lv_at hl 3 rfl) ?_
      refine z_iadd hx hb dX5_bind_131 ?_
      refine z_iast (ws' := mdL G md ma mb mc mt m1 m2 m3 m4 m5 m6 m7 th w h cnt most rch tl nc M (zu (YS Y q (mvK (colY Y q) (mvR (colY Y q) (zsum (colY Y q) 8 - most) 3) 3)) ((8 * q) + 3) (((colY Y q) 3) + (mvR (colY Y q) (zsum (colY Y q) 8 - most) 3))) C T CA CB CN CG CS Z K) hx hb hK hP hD hS 2 rfl (⟨by omega, by omega, by omega⟩) dX5_bind_132 rfl (fun H locs hP hD hS => ?_)
      rw [show (zu (YS Y q (mvK (colY Y q) (mvR (colY Y q) (zsum (colY Y q) 8 - most) 3) 3)) ((8 * q) + 3) (((colY Y q) 3) + (mvR (colY Y q) (zsum (colY Y q) 8 - most) 3))) = (YS Y q (mvF (colY Y q) (zsum (colY Y q) 8 - most))) from by rw [YS_up _ _ _ (by omega)]; rfl] at hP hD
      refine lv_aload_n hx hb dX5_bind_133 rfl (lv_at hl 0 rfl) ?_
      refine lv_iload_n hx hb dX5_bind_134 rfl (lv_at hl 1 rfl) ?_
      refine z_callV (q0 := 0) (G := G) (As := [.int (zI (q))]) (rest := []) hx hb hml hown hT hK (c_X5_sumAt l G md ma mb mc mt m1 m2 m3 m4 m5 m6 m7 th w h cnt most rch tl nc M (YS Y q (mvF (colY Y q) (zsum (colY Y q) 8 - most))) C T CA CB CN CG CS Z K (q) (mdOK_Y hm (YS_b hY hfb)) (by omega)) kc_X5_72 ⟨Nat.le_of_ble_eq_true rfl, Nat.le_of_ble_eq_true rfl⟩ ⟨rfl, rfl⟩ ⟨Nat.le_of_ble_eq_true rfl, Nat.le_of_ble_eq_true rfl⟩ hP rfl rfl rfl rfl hl.1 rfl (Nat.le_of_ble_eq_true rfl) dX5_bind_135 ?_
      refine z_top ((zsum (mvF (colY Y q) (zsum (colY Y q) 8 - most)) 8)) (zsum_congr _ (fun k h1 h2 => YS_at _ _ (by omega))) ?_
      refine lv_istore_n (lv' := [(2, .int (zI ((zsum (mvF (colY Y q) (zsum (colY Y q) 8 - most)) 8)))), (0, .ref md), (1, .int (zI (q))), (3, .int (zI ((8 * q)))), (4, .int (zI ((mvR (colY Y q) (zsum (colY Y q) 8 - most) 3)))), (5, .int (zI (k)))]) hx hb dX5_bind_138 rfl hl (by decide) rfl (fun ls hl => ?_)
      refine lv_iload_n hx hb dX5_bind_139 rfl (lv_at hl 0 rfl) ?_
      refine lv_aload_n hx hb dX5_bind_140 rfl (lv_at hl 1 rfl) ?_
      refine gf_X5_23 hx hb hT hown hK hP 0 rfl rfl dX5_bind_141 ?_
      refine z_icmp_gt (tgt := 148) hx hb dX5_bind_144 (by decide) (by omega) (by omega) (fun h144 => ?_) (fun h144 => ?_)
      · skip
        have hf3 := hfb 3 (by omega) (by omega)
        obtain ⟨hg1, hg2, hg3⟩ := zsum_ge (f := (mvF (colY Y q) (zsum (colY Y q) 8 - most))) (fun k h1 h2 => (hfb k h1 h2).1) 8 (by omega)
        have hg4 := hg1 3 (by omega) (by omega)
        have hrm : 0 ≤ (max (most - (mvF (colY Y q) (zsum (colY Y q) 8 - most)) 3) 0) ∧ (max (most - (mvF (colY Y q) (zsum (colY Y q) 8 - most)) 3) 0) ≤ ((zsum (mvF (colY Y q) (zsum (colY Y q) 8 - most)) 8) - (mvF (colY Y q) (zsum (colY Y q) 8 - most)) 3) ∧ (max (most - (mvF (colY Y q) (zsum (colY Y q) 8 - most)) 3) 0) ≤ 2040 := by omega
        refine lv_aload_n hx hb dX5_bind_148 rfl (lv_at hl 1 rfl) ?_
        refine gf_X5_17 hx hb hT hown hK hP 0 rfl rfl dX5_bind_149 ?_
        refine lv_iload_n hx hb dX5_bind_152 rfl (lv_at hl 3 rfl) ?_
        refine z_iconst hx hb dX5_bind_153 ?_
        refine z_iadd hx hb dX5_bind_154 ?_
        refine z_iald hx hb hK hP 2 rfl (⟨by omega, by omega, by omega⟩) dX5_bind_155 ?_
        refine z_top (((mvF (colY Y q) (zsum (colY Y q) 8 - most)) 3)) (YS_at _ _ (by omega)) ?_
        refine lv_istore (lv' := [(5, .int (zI (((mvF (colY Y q) (zsum (colY Y q) 8 - most)) 3)))), (2, .int (zI ((zsum (mvF (colY Y q) (zsum (colY Y q) 8 - most)) 8)))), (0, .ref md), (1, .int (zI (q))), (3, .int (zI ((8 * q)))), (4, .int (zI ((mvR (colY Y q) (zsum (colY Y q) 8 - most) 3))))]) hx hb dX5_bind_156 hl (by decide) rfl (fun ls hl => ?_)
        refine lv_aload_n hx hb dX5_bind_158 rfl (lv_at hl 2 rfl) ?_
        refine gf_X5_23 hx hb hT hown hK hP 0 rfl rfl dX5_bind_159 ?_
        refine lv_iload hx hb dX5_bind_162 (lv_at hl 0 rfl) ?_
        refine z_isub hx hb dX5_bind_164 ?_
        refine z_iconst hx hb dX5_bind_165 ?_
        refine z_callS (G := G) (As := [.int (zI ((most - ((mvF (colY Y q) (zsum (colY Y q) 8 - most)) 3)))), .int (zI (0))]) (rest := []) hx hb hml hown hT hK (c_X5_more l G ((most - ((mvF (colY Y q) (zsum (colY Y q) 8 - most)) 3))) (0) (by omega) (by omega)) kc_X5_80 ⟨Nat.le_of_ble_eq_true rfl, Nat.le_of_ble_eq_true rfl⟩ ⟨rfl, rfl⟩ ⟨Nat.le_of_ble_eq_true rfl, Nat.le_of_ble_eq_true rfl⟩ (hP.sub [] rfl) rfl hl.1 rfl (Nat.le_of_ble_eq_true rfl) dX5_bind_166 ?_
        refine lv_istore (lv' := [(6, .int (zI ((max (most - ((mvF (colY Y q) (zsum (colY Y q) 8 - most)) 3)) 0)))), (5, .int (zI (((mvF (colY Y q) (zsum (colY Y q) 8 - most)) 3)))), (2, .int (zI ((zsum (mvF (colY Y q) (zsum (colY Y q) 8 - most)) 8)))), (0, .ref md), (1, .int (zI (q))), (3, .int (zI ((8 * q)))), (4, .int (zI ((mvR (colY Y q) (zsum (colY Y q) 8 - most) 3))))]) hx hb dX5_bind_169 hl (by decide) rfl (fun ls hl => ?_)
        refine z_iconst hx hb dX5_bind_171 ?_
        refine lv_istore (lv' := [(7, .int (zI (0))), (6, .int (zI ((max (most - ((mvF (colY Y q) (zsum (colY Y q) 8 - most)) 3)) 0)))), (5, .int (zI (((mvF (colY Y q) (zsum (colY Y q) 8 - most)) 3)))), (2, .int (zI ((zsum (mvF (colY Y q) (zsum (colY Y q) 8 - most)) 8)))), (0, .ref md), (1, .int (zI (q))), (3, .int (zI ((8 * q)))), (4, .int (zI ((mvR (colY Y q) (zsum (colY Y q) 8 - most) 3))))]) hx hb dX5_bind_172 hl (by decide) rfl (fun ls hl => ?_)
        rw [show (mvF (colY Y q) (zsum (colY Y q) 8 - most)) = shK (mvF (colY Y q) (zsum (colY Y q) 8 - most)) (max (most - (mvF (colY Y q) (zsum (colY Y q) 8 - most)) 3) 0) ((zsum (mvF (colY Y q) (zsum (colY Y q) 8 - most)) 8) - (mvF (colY Y q) (zsum (colY Y q) 8 - most)) 3) 0 from (shK_0 _ _ _).symm] at hP hD
        refine z_loopH (σ := Int × Array Slot) (fun zq => F0 m 174 (zq.2) []) (fun zq => (0 ≤ zq.1 ∧ zq.1 ≤ 8) ∧ lv_has (zq.2) 8 [(0, .ref md), (1, .int (zI (q))), (2, .int (zI ((zsum (mvF (colY Y q) (zsum (colY Y q) 8 - most)) 8)))), (3, .int (zI ((8 * q)))), (5, .int (zI (((mvF (colY Y q) (zsum (colY Y q) 8 - most)) 3)))), (6, .int (zI ((max (most - (mvF (colY Y q) (zsum (colY Y q) 8 - most)) 3) 0)))), (7, .int (zI (zq.1)))]) (fun zq => mdL G md ma mb mc mt m1 m2 m3 m4 m5 m6 m7 th w h cnt most rch tl nc M (YS Y q (shK (mvF (colY Y q) (zsum (colY Y q) 8 - most)) (max (most - (mvF (colY Y q) (zsum (colY Y q) 8 - most)) 3) 0) ((zsum (mvF (colY Y q) (zsum (colY Y q) 8 - most)) 8) - (mvF (colY Y q) (zsum (colY Y q) 8 - most)) 3) zq.1)) C T CA CB CN CG CS Z K) (fun zq => (8 - zq.1).toNat) ?_ (0, ls) ⟨by refine ⟨?_, ?_⟩ <;> omega, lv_sub hl [4, 5, 3, 6, 2, 1, 0] rfl⟩ hP hD hS
        intro zq H locs hq hP hD hS ih
        obtain ⟨k, ls⟩ := zq
        obtain ⟨hI, hl⟩ := hq
        try dsimp only at hI hl ih hP hD ⊢
        have hP : zP G (mdL G md ma mb mc mt m1 m2 m3 m4 m5 m6 m7 th w h cnt most rch tl nc M (YS Y q (shK (mvF (colY Y q) (zsum (colY Y q) 8 - most)) (max (most - (mvF (colY Y q) (zsum (colY Y q) 8 - most)) 3) 0) ((zsum (mvF (colY Y q) (zsum (colY Y q) 8 - most)) 8) - (mvF (colY Y q) (zsum (colY Y q) 8 - most)) 3) k)) C T CA CB CN CG CS Z K) H := hP
        have hD : va_D A (mdL G md ma mb mc mt m1 m2 m3 m4 m5 m6 m7 th w h cnt most rch tl nc M (YS Y q (shK (mvF (colY Y q) (zsum (colY Y q) 8 - most)) (max (most - (mvF (colY Y q) (zsum (colY Y q) 8 - most)) 3) 0) ((zsum (mvF (colY Y q) (zsum (colY Y q) 8 - most)) 8) - (mvF (colY Y q) (zsum (colY Y q) 8 - most)) 3) k)) C T CA CB CN CG CS Z K) := hD
        have ih174 := ih
        refine lv_iload hx hb dX5_bind_174 (lv_at hl 6 rfl) ?_
        refine z_bipush hx hb dX5_bind_176 (by decide +kernel) ?_
        refine z_icmp_ge (tgt := 243) hx hb dX5_bind_178 (by decide) (by omega) (by omega) (fun h178 => ?_) (fun h178 => ?_)
        · skip
          have hk4 : k = 8 := by omega
          rw [hk4] at hP hD
          refine lv_aload_n hx hb dX5_bind_243 rfl (lv_at hl 0 rfl) ?_
          refine gf_X5_17 hx hb hT hown hK hP 0 rfl rfl dX5_bind_244 ?_
          refine lv_iload_n hx hb dX5_bind_247 rfl (lv_at hl 3 rfl) ?_
          refine z_iconst hx hb dX5_bind_248 ?_
          refine z_iadd hx hb dX5_bind_249 ?_
          refine lv_iload hx hb dX5_bind_250 (lv_at hl 4 rfl) ?_
          refine lv_aload_n hx hb dX5_bind_252 rfl (lv_at hl 0 rfl) ?_
          refine gf_X5_23 hx hb hT hown hK hP 0 rfl rfl dX5_bind_253 ?_
          refine z_callS (G := G) (As := [.int (zI (((mvF (colY Y q) (zsum (colY Y q) 8 - most)) 3))), .int (zI (most))]) (rest := [.int (zI (((8 * q) + 3))), .ref mb]) hx hb hml hown hT hK (c_X5_less l G (((mvF (colY Y q) (zsum (colY Y q) 8 - most)) 3)) (most) (by omega) (by omega)) kc_X5_76 ⟨Nat.le_of_ble_eq_true rfl, Nat.le_of_ble_eq_true rfl⟩ ⟨rfl, rfl⟩ ⟨Nat.le_of_ble_eq_true rfl, Nat.le_of_ble_eq_true rfl⟩ (hP.sub [] rfl) rfl hl.1 rfl (Nat.le_of_ble_eq_true rfl) dX5_bind_256 ?_
          refine z_iast (ws' := mdL G md ma mb mc mt m1 m2 m3 m4 m5 m6 m7 th w h cnt most rch tl nc M (zu (YS Y q (shK (mvF (colY Y q) (zsum (colY Y q) 8 - most)) (max (most - (mvF (colY Y q) (zsum (colY Y q) 8 - most)) 3) 0) ((zsum (mvF (colY Y q) (zsum (colY Y q) 8 - most)) 8) - (mvF (colY Y q) (zsum (colY Y q) 8 - most)) 3) 8)) ((8 * q) + 3) (min ((mvF (colY Y q) (zsum (colY Y q) 8 - most)) 3) most)) C T CA CB CN CG CS Z K) hx hb hK hP hD hS 2 rfl (⟨by omega, by omega, by omega⟩) dX5_bind_259 rfl (fun H locs hP hD hS => ?_)
          rw [show (zu (YS Y q (shK (mvF (colY Y q) (zsum (colY Y q) 8 - most)) (max (most - (mvF (colY Y q) (zsum (colY Y q) 8 - most)) 3) 0) ((zsum (mvF (colY Y q) (zsum (colY Y q) 8 - most)) 8) - (mvF (colY Y q) (zsum (colY Y q) 8 - most)) 3) 8)) ((8 * q) + 3) (min ((mvF (colY Y q) (zsum (colY Y q) 8 - most)) 3) most)) = (YS Y q (bdF (colY Y q) most)) from by rw [YS_up _ _ _ (by omega)]; unfold bdF; rw [if_neg (by omega)]; unfold shrF; rw [if_neg (by intro hz9; have hz8 : (zsum (mvF (colY Y q) (zsum (colY Y q) 8 - most)) 8) ≤ most := hz9; omega), Int.max_comm]; rfl] at hP hD
          exact z_wrv () hx hb hr hlocks hK hP hD hS (trivial) dX5_bind_260
        · skip
          have hfk := hfb k (by omega) (by omega)
          have hg5 : k ≠ 3 → (mvF (colY Y q) (zsum (colY Y q) 8 - most)) k + (mvF (colY Y q) (zsum (colY Y q) 8 - most)) 3 ≤ (zsum (mvF (colY Y q) (zsum (colY Y q) 8 - most)) 8) := fun h9 => hg2 k 3 (by omega) (by omega) (by omega) (by omega) h9
          have hmd := mul_b (a := (mvF (colY Y q) (zsum (colY Y q) 8 - most)) k) (b := (max (most - (mvF (colY Y q) (zsum (colY Y q) 8 - most)) 3) 0)) (A := 255) (B := 2040) hfk (by omega)
          have hrd : YS Y q (shK (mvF (colY Y q) (zsum (colY Y q) 8 - most)) (max (most - (mvF (colY Y q) (zsum (colY Y q) 8 - most)) 3) 0) ((zsum (mvF (colY Y q) (zsum (colY Y q) 8 - most)) 8) - (mvF (colY Y q) (zsum (colY Y q) 8 - most)) 3) k) (8 * q + k) = (mvF (colY Y q) (zsum (colY Y q) 8 - most)) k := by rw [YS_at _ _ (by omega)]; unfold shK; rw [if_neg (by omega)]
          refine z_cutH (A := A) (H0 := s.heap) (G := G) (σ := Array Slot) (fun zq => F0 m 236 (zq) [.int (zI ((if k = 3 then (mvF (colY Y q) (zsum (colY Y q) 8 - most)) k else (mvF (colY Y q) (zsum (colY Y q) 8 - most)) k * (max (most - (mvF (colY Y q) (zsum (colY Y q) 8 - most)) 3) 0) / ((zsum (mvF (colY Y q) (zsum (colY Y q) 8 - most)) 8) - (mvF (colY Y q) (zsum (colY Y q) 8 - most)) 3)))), .int (zI (((8 * q) + k))), .ref mb]) (fun zq => (True) ∧ lv_has (zq) 8 [(0, .ref md), (1, .int (zI (q))), (2, .int (zI ((zsum (mvF (colY Y q) (zsum (colY Y q) 8 - most)) 8)))), (3, .int (zI ((8 * q)))), (5, .int (zI (((mvF (colY Y q) (zsum (colY Y q) 8 - most)) 3)))), (6, .int (zI ((max (most - (mvF (colY Y q) (zsum (colY Y q) 8 - most)) 3) 0)))), (7, .int (zI (k)))]) (fun zq => mdL G md ma mb mc mt m1 m2 m3 m4 m5 m6 m7 th w h cnt most rch tl nc M (YS Y q (shK (mvF (colY Y q) (zsum (colY Y q) 8 - most)) (max (most - (mvF (colY Y q) (zsum (colY Y q) 8 - most)) 3) 0) ((zsum (mvF (colY Y q) (zsum (colY Y q) 8 - most)) 8) - (mvF (colY Y q) (zsum (colY Y q) 8 - most)) 3) k)) C T CA CB CN CG CS Z K) ?_ ?_
          · intro ls H locs hq hP hD hS
            obtain ⟨hJ, hl⟩ := hq
            try dsimp only at hJ hl hP hD ⊢
            have hP : zP G (mdL G md ma mb mc mt m1 m2 m3 m4 m5 m6 m7 th w h cnt most rch tl nc M (YS Y q (shK (mvF (colY Y q) (zsum (colY Y q) 8 - most)) (max (most - (mvF (colY Y q) (zsum (colY Y q) 8 - most)) 3) 0) ((zsum (mvF (colY Y q) (zsum (colY Y q) 8 - most)) 8) - (mvF (colY Y q) (zsum (colY Y q) 8 - most)) 3) k)) C T CA CB CN CG CS Z K) H := hP
            have hD : va_D A (mdL G md ma mb mc mt m1 m2 m3 m4 m5 m6 m7 th w h cnt most rch tl nc M (YS Y q (shK (mvF (colY Y q) (zsum (colY Y q) 8 - most)) (max (most - (mvF (colY Y q) (zsum (colY Y q) 8 - most)) 3) 0) ((zsum (mvF (colY Y q) (zsum (colY Y q) 8 - most)) 8) - (mvF (colY Y q) (zsum (colY Y q) 8 - most)) 3) k)) C T CA CB CN CG CS Z K) := hD
            refine z_iast (ws' := mdL G md ma mb mc mt m1 m2 m3 m4 m5 m6 m7 th w h cnt most rch tl nc M (zu (YS Y q (shK (mvF (colY Y q) (zsum (colY Y q) 8 - most)) (max (most - (mvF (colY Y q) (zsum (colY Y q) 8 - most)) 3) 0) ((zsum (mvF (colY Y q) (zsum (colY Y q) 8 - most)) 8) - (mvF (colY Y q) (zsum (colY Y q) 8 - most)) 3) k)) ((8 * q) + k) (if k = 3 then (mvF (colY Y q) (zsum (colY Y q) 8 - most)) k else (mvF (colY Y q) (zsum (colY Y q) 8 - most)) k * (max (most - (mvF (colY Y q) (zsum (colY Y q) 8 - most)) 3) 0) / ((zsum (mvF (colY Y q) (zsum (colY Y q) 8 - most)) 8) - (mvF (colY Y q) (zsum (colY Y q) 8 - most)) 3))) C T CA CB CN CG CS Z K) hx hb hK hP hD hS 2 rfl (⟨by omega, by omega, by omega⟩) dX5_bind_236 rfl (fun H locs hP hD hS => ?_)
            rw [show (zu (YS Y q (shK (mvF (colY Y q) (zsum (colY Y q) 8 - most)) (max (most - (mvF (colY Y q) (zsum (colY Y q) 8 - most)) 3) 0) ((zsum (mvF (colY Y q) (zsum (colY Y q) 8 - most)) 8) - (mvF (colY Y q) (zsum (colY Y q) 8 - most)) 3) k)) ((8 * q) + k) (if k = 3 then (mvF (colY Y q) (zsum (colY Y q) 8 - most)) k else (mvF (colY Y q) (zsum (colY Y q) 8 - most)) k * (max (most - (mvF (colY Y q) (zsum (colY Y q) 8 - most)) 3) 0) / ((zsum (mvF (colY Y q) (zsum (colY Y q) 8 - most)) 8) - (mvF (colY Y q) (zsum (colY Y q) 8 - most)) 3))) = (YS Y q (shK (mvF (colY Y q) (zsum (colY Y q) 8 - most)) (max (most - (mvF (colY Y q) (zsum (colY Y q) 8 - most)) 3) 0) ((zsum (mvF (colY Y q) (zsum (colY Y q) 8 - most)) 8) - (mvF (colY Y q) (zsum (colY Y q) 8 - most)) 3) (k + 1))) from by rw [YS_up _ _ _ (by omega), shK_w _ _ _ (by omega)]] at hP hD
            refine lv_iinc (v := zI (k + (1))) (lv' := [(7, .int (zI (k + (1)))), (0, .ref md), (1, .int (zI (q))), (2, .int (zI ((zsum (mvF (colY Y q) (zsum (colY Y q) 8 - most)) 8)))), (3, .int (zI ((8 * q)))), (5, .int (zI (((mvF (colY Y q) (zsum (colY Y q) 8 - most)) 3)))), (6, .int (zI ((max (most - (mvF (colY Y q) (zsum (colY Y q) 8 - most)) 3) 0))))]) hx hb dX5_bind_237 hl (k := 6) rfl (zI_add _ _) (by decide) rfl (fun ls hl => ?_)
            refine z_goto (tgt := 174) hx hb dX5_bind_240 (by decide) ?_
            exact ih174 (k + 1, ls) _ _ ⟨by refine ⟨?_, ?_⟩ <;> omega, lv_sub hl [1, 2, 3, 4, 5, 6, 0] rfl⟩ (by omega) hP hD hS
          intro J236
          refine lv_aload_n hx hb dX5_bind_181 rfl (lv_at hl 0 rfl) ?_
          refine gf_X5_17 hx hb hT hown hK hP 0 rfl rfl dX5_bind_182 ?_
          refine lv_iload_n hx hb dX5_bind_185 rfl (lv_at hl 3 rfl) ?_
          refine lv_iload hx hb dX5_bind_186 (lv_at hl 6 rfl) ?_
          refine z_iadd hx hb dX5_bind_188 ?_
          refine lv_iload hx hb dX5_bind_189 (lv_at hl 6 rfl) ?_
          refine z_iconst hx hb dX5_bind_191 ?_
          refine z_icmp_eq (tgt := 207) hx hb dX5_bind_192 (by decide) (by omega) (by omega) (fun h192 => ?_) (fun h192 => ?_)
          · skip
            refine lv_aload_n hx hb dX5_bind_207 rfl (lv_at hl 0 rfl) ?_
            refine gf_X5_17 hx hb hT hown hK hP 0 rfl rfl dX5_bind_208 ?_
            refine lv_iload_n hx hb dX5_bind_211 rfl (lv_at hl 3 rfl) ?_
            refine lv_iload hx hb dX5_bind_212 (lv_at hl 6 rfl) ?_
            refine z_iadd hx hb dX5_bind_214 ?_
            refine z_iald hx hb hK hP 2 rfl (⟨by omega, by omega, by omega⟩) dX5_bind_215 ?_
            refine z_top (((mvF (colY Y q) (zsum (colY Y q) 8 - most)) k)) (hrd) ?_
            refine z_goto (tgt := 236) hx hb dX5_bind_216 (by decide) ?_
            refine z_top (if k = 3 then (mvF (colY Y q) (zsum (colY Y q) 8 - most)) k else (mvF (colY Y q) (zsum (colY Y q) 8 - most)) k * (max (most - (mvF (colY Y q) (zsum (colY Y q) 8 - most)) 3) 0) / ((zsum (mvF (colY Y q) (zsum (colY Y q) 8 - most)) 8) - (mvF (colY Y q) (zsum (colY Y q) 8 - most)) 3)) (by first | exact (if_pos h192).symm | exact (if_neg h192).symm | (rw [if_neg h192, h204, Int.zero_mul, Int.zero_ediv])) ?_
            exact J236 (ls) _ _ ⟨trivial, lv_sub hl [0, 1, 2, 3, 4, 5, 6] rfl⟩ hP hD hS
          · skip
            refine lv_aload_n hx hb dX5_bind_195 rfl (lv_at hl 0 rfl) ?_
            refine gf_X5_17 hx hb hT hown hK hP 0 rfl rfl dX5_bind_196 ?_
            refine lv_iload_n hx hb dX5_bind_199 rfl (lv_at hl 3 rfl) ?_
            refine lv_iload hx hb dX5_bind_200 (lv_at hl 6 rfl) ?_
            refine z_iadd hx hb dX5_bind_202 ?_
            refine z_iald hx hb hK hP 2 rfl (⟨by omega, by omega, by omega⟩) dX5_bind_203 ?_
            refine z_top (((mvF (colY Y q) (zsum (colY Y q) 8 - most)) k)) (hrd) ?_
            refine z_if_ne (tgt := 219) hx hb dX5_bind_204 (by decide) (by omega) (fun h204 => ?_) (fun h204 => ?_)
            · skip
              have hg6 := hg5 h192
              refine lv_aload_n hx hb dX5_bind_219 rfl (lv_at hl 0 rfl) ?_
              refine gf_X5_17 hx hb hT hown hK hP 0 rfl rfl dX5_bind_220 ?_
              refine lv_iload_n hx hb dX5_bind_223 rfl (lv_at hl 3 rfl) ?_
              refine lv_iload hx hb dX5_bind_224 (lv_at hl 6 rfl) ?_
              refine z_iadd hx hb dX5_bind_226 ?_
              refine z_iald hx hb hK hP 2 rfl (⟨by omega, by omega, by omega⟩) dX5_bind_227 ?_
              refine z_top (((mvF (colY Y q) (zsum (colY Y q) 8 - most)) k)) (hrd) ?_
              refine lv_iload hx hb dX5_bind_228 (lv_at hl 5 rfl) ?_
              refine z_imul hx hb dX5_bind_230 ?_
              refine lv_iload_n hx hb dX5_bind_231 rfl (lv_at hl 2 rfl) ?_
              refine lv_iload hx hb dX5_bind_232 (lv_at hl 4 rfl) ?_
              refine z_isub hx hb dX5_bind_234 ?_
              refine z_idiv hx hb dX5_bind_235 (by omega) (by omega) ?_
              refine z_top (if k = 3 then (mvF (colY Y q) (zsum (colY Y q) 8 - most)) k else (mvF (colY Y q) (zsum (colY Y q) 8 - most)) k * (max (most - (mvF (colY Y q) (zsum (colY Y q) 8 - most)) 3) 0) / ((zsum (mvF (colY Y q) (zsum (colY Y q) 8 - most)) 8) - (mvF (colY Y q) (zsum (colY Y q) 8 - most)) 3)) (by first | exact (if_pos h192).symm | exact (if_neg h192).symm | (rw [if_neg h192, h204, Int.zero_mul, Int.zero_ediv])) ?_
              exact J236 (ls) _ _ ⟨trivial, lv_sub hl [0, 1, 2, 3, 4, 5, 6] rfl⟩ hP hD hS
            · skip
              refine lv_aload_n hx hb dX5_bind_207 rfl (lv_at hl 0 rfl) ?_
              refine gf_X5_17 hx hb hT hown hK hP 0 rfl rfl dX5_bind_208 ?_
              refine lv_iload_n hx hb dX5_bind_211 rfl (lv_at hl 3 rfl) ?_
              refine lv_iload hx hb dX5_bind_212 (lv_at hl 6 rfl) ?_
              refine z_iadd hx hb dX5_bind_214 ?_
              refine z_iald hx hb hK hP 2 rfl (⟨by omega, by omega, by omega⟩) dX5_bind_215 ?_
              refine z_top (((mvF (colY Y q) (zsum (colY Y q) 8 - most)) k)) (hrd) ?_
              refine z_goto (tgt := 236) hx hb dX5_bind_216 (by decide) ?_
              refine z_top (if k = 3 then (mvF (colY Y q) (zsum (colY Y q) 8 - most)) k else (mvF (colY Y q) (zsum (colY Y q) 8 - most)) k * (max (most - (mvF (colY Y q) (zsum (colY Y q) 8 - most)) 3) 0) / ((zsum (mvF (colY Y q) (zsum (colY Y q) 8 - most)) 8) - (mvF (colY Y q) (zsum (colY Y q) 8 - most)) 3)) (by first | exact (if_pos h192).symm | exact (if_neg h192).symm | (rw [if_neg h192, h204, Int.zero_mul, Int.zero_ediv])) ?_
              exact J236 (ls) _ _ ⟨trivial, lv_sub hl [0, 1, 2, 3, 4, 5, 6] rfl⟩ hP hD hS
      · skip
        have e9 : YS Y q (bdF (colY Y q) most) = YS Y q (mvF (colY Y q) (zsum (colY Y q) 8 - most)) := by unfold bdF; rw [if_neg (by omega)]; unfold shrF; rw [if_pos (by have hz9 : (zsum (mvF (colY Y q) (zsum (colY Y q) 8 - most)) 8) ≤ most := (by omega); exact hz9)]
        exact z_wrv () hx hb hr hlocks hK (by rw [e9]; exact hP) (by rw [e9]; exact hD) hS (trivial) dX5_bind_147
    · skip
      refine lv_aload_n hx hb dX5_bind_87 rfl (lv_at hl 0 rfl) ?_
      refine gf_X5_17 hx hb hT hown hK hP 0 rfl rfl dX5_bind_88 ?_
      refine lv_iload_n hx hb dX5_bind_91 rfl (lv_at hl 2 rfl) ?_
      refine lv_iload hx hb dX5_bind_92 (lv_at hl 4 rfl) ?_
      refine z_iadd hx hb dX5_bind_94 ?_
      refine lv_aload_n hx hb dX5_bind_95 rfl (lv_at hl 0 rfl) ?_
      refine gf_X5_17 hx hb hT hown hK hP 0 rfl rfl dX5_bind_96 ?_
      refine lv_iload_n hx hb dX5_bind_99 rfl (lv_at hl 2 rfl) ?_
      refine lv_iload hx hb dX5_bind_100 (lv_at hl 4 rfl) ?_
      refine z_iadd hx hb dX5_bind_102 ?_
      refine z_iald hx hb hK hP 2 rfl (⟨by omega, by omega, by omega⟩) dX5_bind_103 ?_
      refine z_top (((colY Y q) k)) (by rw [YS_at _ _ (by omega)]; unfold mvK; rw [if_neg (by omega)]) ?_
      refine lv_iload hx hb dX5_bind_104 (lv_at hl 3 rfl) ?_
      refine z_isub hx hb dX5_bind_106 ?_
      refine z_iast (ws' := mdL G md ma mb mc mt m1 m2 m3 m4 m5 m6 m7 th w h cnt most rch tl nc M (zu (YS Y q (mvK (colY Y q) (mvR (colY Y q) (zsum (colY Y q) 8 - most) 3) k)) ((8 * q) + k) (((colY Y q) k) - (mvR (colY Y q) (zsum (colY Y q) 8 - most) 3))) C T CA CB CN CG CS Z K) hx hb hK hP hD hS 2 rfl (⟨by omega, by omega, by omega⟩) dX5_bind_107 rfl (fun H locs hP hD hS => ?_)
      rw [show (zu (YS Y q (mvK (colY Y q) (mvR (colY Y q) (zsum (colY Y q) 8 - most) 3) k)) ((8 * q) + k) (((colY Y q) k) - (mvR (colY Y q) (zsum (colY Y q) 8 - most) 3))) = (YS Y q (mvK (colY Y q) (mvR (colY Y q) (zsum (colY Y q) 8 - most) 3) (k + 1))) from by rw [YS_up _ _ _ (by omega), mvK_s _ _ (by omega)]] at hP hD
      refine lv_iinc (v := zI (k + (1))) (lv' := [(5, .int (zI (k + (1)))), (0, .ref md), (1, .int (zI (q))), (3, .int (zI ((8 * q)))), (4, .int (zI ((mvR (colY Y q) (zsum (colY Y q) 8 - most) 3))))]) hx hb dX5_bind_108 hl (k := 4) rfl (zI_add _ _) (by decide) rfl (fun ls hl => ?_)
      refine z_goto (tgt := 81) hx hb dX5_bind_111 (by decide) ?_
      exact ih81 (k + 1, ls) _ _ ⟨by refine ⟨?_, ?_⟩ <;> omega, lv_sub hl [1, 2, 3, 4, 0] rfl⟩ (by omega) hP hD hS
  · skip
    have e9 : YS Y q (bdF (colY Y q) most) = Y := by unfold bdF; rw [if_pos (by omega), YS_self]
    exact z_wrv () hx hb hr hlocks hK (by rw [e9]; exact hP) (by rw [e9]; exact hD) hS (trivial) dX5_bind_14

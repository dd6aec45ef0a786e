def zL (z : Int) : Int64 := Int64.ofInt z
theorem zL_add (a b : Int) : zL a + zL b = zL (a + b) := (Int64.ofInt_add a b).symm
theorem zI_L {a : Int} (h : -2147483648 ≤ a ∧ a ≤ 2147483647) : (zI a).toInt64 = zL a := by
  apply Int64.toInt_inj.mp
  rw [Int32.toInt_toInt64, zI_to h]
  exact (Int64.toInt_ofInt_of_le (by omega) (by omega)).symm
abbrev zWl (l : Launch) (y : MethodName) (bytes : ByteArray) (maxL : Nat) (ret : Option FieldType) (rm : Room) (G : zG) (av : List Value) (ws : va_W) {S : Type} (v : S → Int) (ok : S → Prop) (ws2 : S → va_W) : Prop :=
  ∀ sz : Nat, Met l y (Cond.code y bytes maxL ret :: TB) rm (zPw G av ws sz) (va_Ql (fun r u => r = zL (v u) ∧ ok u) (zB G (va_A ws sz) ws2) (va_A ws sz)) rm.cells rm.slots (va_A ws sz)
section ZQ
variable {p : Program} {l : Launch} {e : Env} {R : Room} {s : State} {m : MethodId} {args : Array Value} {below : List Frame} {meth : Method} {c : Code} {H : Heap} {locs : List Loc} {cells slots : Nat} {Q : State → Prop} {cc : ByteArray} {pc : Nat} {ls : Array Slot} {G : zG} {rest : List Value}
theorem z_i2l (hx : p.tables.exec = Jvm.exec) (hb : c.code = cc) {a : Int} (hd : decode cc pc = .ok (.i2l, 1)) (ha : -2147483648 ≤ a ∧ a ≤ 2147483647) (k : W p l e R s m args below meth c H locs cells slots Q (F0 m (pc + 1) ls (.long (zL a) :: rest))) : W p l e R s m args below meth c H locs cells slots Q (F0 m pc ls (.int (zI a) :: rest)) := lv_i2l hx hb hd (zI_L ha) k
theorem z_ladd (hx : p.tables.exec = Jvm.exec) (hb : c.code = cc) {a b : Int} (hd : decode cc pc = .ok (.ladd, 1)) (k : W p l e R s m args below meth c H locs cells slots Q (F0 m (pc + 1) ls (.long (zL (a + b)) :: rest))) : W p l e R s m args below meth c H locs cells slots Q (F0 m pc ls (.long (zL b) :: .long (zL a) :: rest)) := lv_ladd hx hb hd (by rw [zL_add]; exact k)
theorem z_topl {a : Int} (b : Int) (h : a = b) (k : W p l e R s m args below meth c H locs cells slots Q (F0 m pc ls (.long (zL b) :: rest))) : W p l e R s m args below meth c H locs cells slots Q (F0 m pc ls (.long (zL a) :: rest)) := by rw [h]; exact k
theorem z_wrl {A : Nat → Prop} {S : Type} {v : S → Int} {ok : S → Prop} {ws2 : S → va_W} {val : Int} (u : S) (hx : p.tables.exec = Jvm.exec) (hb : c.code = cc) (hr : meth.sig.returnType = some .long) (hlocks : meth.locks = false) (hK : zK G s) (hP : zP G (ws2 u) H) (hD : va_D A (ws2 u)) (hS : va_S A s.heap H locs) (hok : ok u) (hv : val = v u) (hd : decode cc pc = .ok (.lreturn, 1)) : W p l e R s m args below meth c H locs cells slots (MQ below (va_Ql (fun r u => r = zL (v u) ∧ ok u) (zB G A ws2) A) args s cells slots A) (F0 m pc ls [.long (zL val)]) :=
  W.lret hx hb hr (fun t ht hW => ⟨⟨_, u, rfl, ⟨by rw [hv], hok⟩, by rw [ht]; exact hP, va_K.moved hW.alike hK, hD⟩, hS.F ht⟩) hS.2.2 hd hlocks
end ZQ

theorem pk_end {Y : Int → Int} {w h k to y : Int} (h1 : to = w) (h2 : 1 ≤ w) (h3 : 0 ≤ y ∧ y < h) : to + w * y = w * h ∨ stR (PPf Y w (w * h)) (w * h) w k (to + w * y) = true := by
  by_cases e : y + 1 = h
  · left; rw [← e, Int.mul_add]; omega
  · right
    have : (to + w * y) % w = 0 := by rw [h1, show w + w * y = w * (1 + y) by rw [Int.mul_add]; omega]; exact Int.mul_emod_right _ _
    unfold stR; rw [decide_eq_true this]; rfl
set_option maxHeartbeats 4000000 in
set_option maxRecDepth 100000 in
theorem c_X5_packed (l : Launch) (G : zG) (md ma mb mc mt m1 m2 m3 m4 m5 m6 m7 : Nat) (th w h cnt most rch tl nc : Int) (M Y C T CA CB CN CG CS Z K : Int → Int) (k i : Int) (hm : mdOK w h cnt most rch tl nc M Y C T CN CG CS K) (hk : -2147483648 ≤ k ∧ k ≤ 2147483647) (hi : -2147483648 ≤ i ∧ i ≤ 2147483647) : zWi l yX5_packed cX5_packed 7 (some .int) { frames := 3, cells := 0, slots := 0, locals := 70 } G [.ref md, .int (zI (k)), .int (zI (i))] (mdL G md ma mb mc mt m1 m2 m3 m4 m5 m6 m7 th w h cnt most rch tl nc M Y C T CA CB CN CG CS Z K) (S := Unit) (fun u => if cPac k i cnt (2 * cntB (stR (PPf Y w (w * h)) (w * h) w k) (w * h).toNat) = 0 then (if i = -1 then 2 * cntB (stR (PPf Y w (w * h)) (w * h) w k) (w * h).toNat else (if i % 2 = 0 then endV (stR (PPf Y w (w * h)) (w * h) w k) (srF (stR (PPf Y w (w * h)) (w * h) w k) (i / 2) (w * h).toNat) (w * h) - (srF (stR (PPf Y w (w * h)) (w * h) w k) (i / 2) (w * h).toNat) else (PPf Y w (w * h)) (k * (w * h) + (srF (stR (PPf Y w (w * h)) (w * h) w k) (i / 2) (w * h).toNat)))) else 0) (fun u => True) (fun u => mdL G md ma mb mc mt m1 m2 m3 m4 m5 m6 m7 (cPac k i cnt (2 * cntB (stR (PPf Y w (w * h)) (w * h) w k) (w * h).toNat)) w h cnt most rch tl nc M Y C T CA CB CN CG CS Z K) := by
  intro sz
  refine Met.ofW (cc := cX5_packed) (maxL := 7) (ret := (some .int)) (by decide) rfl ?_
  intro p e s m args below meth c s₁ B hml hv
  obtain ⟨rfl, hsz, hP, hK, hD0⟩ := hv
  have hx := B.exec
  have hb := B.bytes
  have hr := B.returns
  have hT : ∀ w ∈ TB, w.before _ s = true := fun w h => atoms_spec (ws := Cond.code yX5_packed cX5_packed 7 (some .int) :: TB) B.pre w (List.mem_cons_of_mem _ h)
  have hown : s.vm.findClass RX5 = some m.cls := findClass_of_methodNamed B.named
  have hlocks := B.notSynchronized
  subst hsz
  have hD := hD0.self (sz := s.heap.size)
  generalize hAe : va_A (mdL G md ma mb mc mt m1 m2 m3 m4 m5 m6 m7 th w h cnt most rch tl nc M Y C T CA CB CN CG CS Z K) s.heap.size = A at hD ⊢
  have hA : ∀ q : Nat, s.heap.size ≤ q → A q := fun q h => by rw [← hAe]; exact Or.inr h
  have hS : va_S A s.heap s.heap [] := va_S.rf
  have hP : zP G (mdL G md ma mb mc mt m1 m2 m3 m4 m5 m6 m7 th w h cnt most rch tl nc M Y C T CA CB CN CG CS Z K) s.heap := hP
  have hD : va_D A (mdL G md ma mb mc mt m1 m2 m3 m4 m5 m6 m7 th w h cnt most rch tl nc M Y C T CA CB CN CG CS Z K) := hD
  have hl := lv_entry ([.ref md, .int (zI (k)), .int (zI (i))]) (n := 7) (Nat.le_of_ble_eq_true rfl)
  rw [lg_entry_eq]
  generalize (lg_sl ([.ref md, .int (zI (k)), .int (zI (i))]) ++ List.replicate (7 - (lg_sl ([.ref md, .int (zI (k)), .int (zI (i))])).length) Slot.unset).toArray = ls at hl ⊢
  have hl : lv_has ls 7 [(0, .ref md), (1, .int (zI (k))), (2, .int (zI (i)))] := hl
  obtain ⟨hw, hh, hcnt, hmost, hrch, hM, hY, hC, hTb, hT0, hT5, htl, hnc, hcl, hKb⟩ := id hm
  have hpt := md_pts hm
  have hPb : ∀ j, 0 ≤ PPf Y w (w * h) j ∧ PPf Y w (w * h) j ≤ 255 := fun j => hY _
  refine lv_aload_n hx hb dX5_packed_0 rfl (lv_at hl 0 rfl) ?_
  refine z_cutH (A := A) (H0 := s.heap) (G := G) (σ := Array Slot) (fun zq => F0 m 30 (zq) [.int (zI (cPac k i cnt (2 * cntB (stR (PPf Y w (w * h)) (w * h) w k) (w * h).toNat))), .ref md]) (fun zq => (True) ∧ lv_has (zq) 7 [(0, .ref md), (1, .int (zI (k))), (2, .int (zI (i)))]) (fun zq => mdL G md ma mb mc mt m1 m2 m3 m4 m5 m6 m7 th w h cnt most rch tl nc M Y C T CA CB CN CG CS Z K) ?_ ?_
  · intro ls H locs hq hP hD hS
    obtain ⟨hJ, hl⟩ := hq
    try dsimp only at hJ hl hP hD ⊢
    have hP : zP G (mdL G md ma mb mc mt m1 m2 m3 m4 m5 m6 m7 th w h cnt most rch tl nc M Y C T CA CB CN CG CS Z K) H := hP
    have hD : va_D A (mdL G md ma mb mc mt m1 m2 m3 m4 m5 m6 m7 th w h cnt most rch tl nc M Y C T CA CB CN CG CS Z K) := hD
    obtain ⟨cd, ecd⟩ : ∃ z : Int, z = cPac k i cnt (2 * cntB (stR (PPf Y w (w * h)) (w * h) w k) (w * h).toNat) := ⟨_, rfl⟩
    refine z_top cd ecd.symm ?_
    have hcd : 0 ≤ cd ∧ cd ≤ 1 := by rw [ecd]; unfold cPac; (repeat' split) <;> omega
    have hcz : cd = 0 → (0 ≤ k ∧ k < cnt) ∧ (-1 ≤ i ∧ i < 2 * cntB (stR (PPf Y w (w * h)) (w * h) w k) (w * h).toNat) := fun h9 => by rw [ecd] at h9; revert h9; unfold cPac; (repeat' split) <;> omega
    refine pf_X5_62 (ws' := mdL G md ma mb mc mt m1 m2 m3 m4 m5 m6 m7 cd w h cnt most rch tl nc M Y C T CA CB CN CG CS Z K) hx hb hT hown hK hP hD hS 0 rfl (Nat.le_of_ble_eq_true rfl) rfl rfl rfl dX5_packed_30 (fun H locs hP hD hS => ?_)
    refine lv_aload_n hx hb dX5_packed_33 rfl (lv_at hl 0 rfl) ?_
    refine gf_X5_62 hx hb hT hown hK hP 0 rfl rfl dX5_packed_34 ?_
    refine z_if_gt (tgt := 45) hx hb dX5_packed_37 (by decide) (by omega) (fun h37 => ?_) (fun h37 => ?_)
    · skip
      refine lv_aload_n hx hb dX5_packed_45 rfl (lv_at hl 0 rfl) ?_
      refine gf_X5_62 hx hb hT hown hK hP 0 rfl rfl dX5_packed_46 ?_
      refine z_if_le (tgt := 56) hx hb dX5_packed_49 (by decide) (by omega) (fun h49 => ?_) (fun h49 => ?_)
      · skip
        have hk8 := hcz (by omega)
        have hcb0 := cntB_b (stR (PPf Y w (w * h)) (w * h) w k) (w * h).toNat
        refine z_iconst hx hb dX5_packed_56 ?_
        refine lv_aload_n hx hb dX5_packed_57 rfl (lv_at hl 0 rfl) ?_
        refine lv_iload_n hx hb dX5_packed_58 rfl (lv_at hl 1 rfl) ?_
        refine z_callV (q0 := 0) (G := G) (As := [.int (zI (k))]) (rest := [.int (zI (2))]) hx hb hml hown hT hK (c_X5_runsOf l G md ma mb mc mt m1 m2 m3 m4 m5 m6 m7 cd w h cnt most rch tl nc M Y C T CA CB CN CG CS Z K (k) hm (by omega)) kc_X5_146 ⟨Nat.le_of_ble_eq_true rfl, Nat.le_of_ble_eq_true rfl⟩ ⟨rfl, rfl⟩ ⟨Nat.le_of_ble_eq_true rfl, Nat.le_of_ble_eq_true rfl⟩ hP rfl rfl rfl rfl hl.1 rfl (Nat.le_of_ble_eq_true rfl) dX5_packed_59 ?_
        refine z_imul hx hb dX5_packed_62 ?_
        have hQ : mdL G md ma mb mc mt m1 m2 m3 m4 m5 m6 m7 (cPac k i cnt (2 * cntB (stR (PPf Y w (w * h)) (w * h) w k) (w * h).toNat)) w h cnt most rch tl nc M Y C T CA CB CN CG CS Z K = mdL G md ma mb mc mt m1 m2 m3 m4 m5 m6 m7 cd w h cnt most rch tl nc M Y C T CA CB CN CG CS Z K := by rw [← ecd] <;> (by_cases hc0 : cd = 0) <;> first | (exfalso; omega) | (simp only [if_pos hc0]; done) | (simp only [if_neg hc0]; done) | rfl
        exact z_wri () hx hb hr hlocks hK (by rw [hQ]; exact hP) (by rw [hQ]; exact hD) hS (trivial) (by rw [← ecd]; first | (exfalso; omega) | (rw [if_pos (by omega : cd = 0), if_pos (by omega : i = -1)]) | (rw [if_neg (by omega : ¬ cd = 0)])) dX5_packed_63
      · skip
        refine z_iconst hx hb dX5_packed_52 ?_
        refine z_goto (tgt := 63) hx hb dX5_packed_53 (by decide) ?_
        have hQ : mdL G md ma mb mc mt m1 m2 m3 m4 m5 m6 m7 (cPac k i cnt (2 * cntB (stR (PPf Y w (w * h)) (w * h) w k) (w * h).toNat)) w h cnt most rch tl nc M Y C T CA CB CN CG CS Z K = mdL G md ma mb mc mt m1 m2 m3 m4 m5 m6 m7 cd w h cnt most rch tl nc M Y C T CA CB CN CG CS Z K := by rw [← ecd] <;> (by_cases hc0 : cd = 0) <;> first | (exfalso; omega) | (simp only [if_pos hc0]; done) | (simp only [if_neg hc0]; done) | rfl
        exact z_wri () hx hb hr hlocks hK (by rw [hQ]; exact hP) (by rw [hQ]; exact hD) hS (trivial) (by rw [← ecd]; first | (exfalso; omega) | (rw [if_pos (by omega : cd = 0), if_pos (by omega : i = -1)]) | (rw [if_neg (by omega : ¬ cd = 0)])) dX5_packed_63
    · skip
      refine lv_iload_n hx hb dX5_packed_40 rfl (lv_at hl 2 rfl) ?_
      refine z_iconst hx hb dX5_packed_41 ?_
      refine z_icmp_ne (tgt := 64) hx hb dX5_packed_42 (by decide) (by omega) (by omega) (fun h42 => ?_) (fun h42 => ?_)
      · skip
        have hk8 := hcz (by omega)
        have hin : ¬ i = -1 := by omega
        have hcb0 := cntB_b (stR (PPf Y w (w * h)) (w * h) w k) (w * h).toNat
        refine z_iconst hx hb dX5_packed_64 ?_
        refine z_top ((cntB (stR (PPf Y w (w * h)) (w * h) w k) (w * 0).toNat - 1)) (by rw [Int.mul_zero]; rfl) ?_
        refine lv_istore_n (lv' := [(3, .int (zI ((cntB (stR (PPf Y w (w * h)) (w * h) w k) (w * 0).toNat - 1)))), (0, .ref md), (1, .int (zI (k))), (2, .int (zI (i)))]) hx hb dX5_packed_65 rfl hl (by decide) rfl (fun ls hl => ?_)
        refine z_iconst hx hb dX5_packed_66 ?_
        refine lv_istore (lv' := [(4, .int (zI (0))), (3, .int (zI ((cntB (stR (PPf Y w (w * h)) (w * h) w k) (w * 0).toNat - 1)))), (0, .ref md), (1, .int (zI (k))), (2, .int (zI (i)))]) hx hb dX5_packed_67 hl (by decide) rfl (fun ls hl => ?_)
        refine z_loopH (σ := Int × Array Slot) (fun zq => F0 m 69 (zq.2) []) (fun zq => ((0 ≤ zq.1 ∧ zq.1 ≤ h) ∧ srF (stR (PPf Y w (w * h)) (w * h) w k) (i / 2) (w * zq.1).toNat = -1 ∧ cntB (stR (PPf Y w (w * h)) (w * h) w k) (w * zq.1).toNat - 1 < i / 2) ∧ lv_has (zq.2) 7 [(0, .ref md), (1, .int (zI (k))), (2, .int (zI (i))), (3, .int (zI ((cntB (stR (PPf Y w (w * h)) (w * h) w k) (w * zq.1).toNat - 1)))), (4, .int (zI (zq.1)))]) (fun zq => mdL G md ma mb mc mt m1 m2 m3 m4 m5 m6 m7 cd w h cnt most rch tl nc M Y C T CA CB CN CG CS Z K) (fun zq => (h - zq.1).toNat) ?_ (0, ls) ⟨⟨by dsimp only; omega, by dsimp only; rw [Int.mul_zero]; rfl, by dsimp only; rw [Int.mul_zero]; show (0 : Int) - 1 < i / 2; omega⟩, lv_sub hl [2, 3, 4, 1, 0] rfl⟩ hP hD hS
        intro zq H locs hq hP hD hS ih
        obtain ⟨y, ls⟩ := zq
        obtain ⟨⟨hI, hS1, hI3⟩, hl⟩ := hq
        try dsimp only at hI hS1 hI3 hl ih hP hD ⊢
        have hP : zP G (mdL G md ma mb mc mt m1 m2 m3 m4 m5 m6 m7 cd w h cnt most rch tl nc M Y C T CA CB CN CG CS Z K) H := hP
        have hD : va_D A (mdL G md ma mb mc mt m1 m2 m3 m4 m5 m6 m7 cd w h cnt most rch tl nc M Y C T CA CB CN CG CS Z K) := hD
        have ih69 := ih
        refine lv_iload hx hb dX5_packed_69 (lv_at hl 4 rfl) ?_
        refine lv_aload_n hx hb dX5_packed_71 rfl (lv_at hl 0 rfl) ?_
        refine gf_X5_59 hx hb hT hown hK hP 0 rfl rfl dX5_packed_72 ?_
        refine z_icmp_ge (tgt := 186) hx hb dX5_packed_75 (by decide) (by omega) (by omega) (fun h75 => ?_) (fun h75 => ?_)
        · skip
          exact absurd hI3 (by rw [show y = h by omega]; omega)
        · skip
          refine z_iconst hx hb dX5_packed_78 ?_
          refine lv_istore (lv' := [(5, .int (zI (0))), (0, .ref md), (1, .int (zI (k))), (2, .int (zI (i))), (3, .int (zI ((cntB (stR (PPf Y w (w * h)) (w * h) w k) (w * y).toNat - 1)))), (4, .int (zI (y)))]) hx hb dX5_packed_79 hl (by decide) rfl (fun ls hl => ?_)
          rw [show w * y = 0 + w * y by omega] at hl hS1 hI3
          refine z_loopH (σ := Int × Array Slot) (fun zq => F0 m 81 (zq.2) []) (fun zq => ((0 ≤ zq.1 ∧ zq.1 ≤ w) ∧ srF (stR (PPf Y w (w * h)) (w * h) w k) (i / 2) (zq.1 + w * y).toNat = -1 ∧ cntB (stR (PPf Y w (w * h)) (w * h) w k) (zq.1 + w * y).toNat - 1 < i / 2) ∧ lv_has (zq.2) 7 [(0, .ref md), (1, .int (zI (k))), (2, .int (zI (i))), (3, .int (zI ((cntB (stR (PPf Y w (w * h)) (w * h) w k) (zq.1 + w * y).toNat - 1)))), (4, .int (zI (y))), (5, .int (zI (zq.1)))]) (fun zq => mdL G md ma mb mc mt m1 m2 m3 m4 m5 m6 m7 cd w h cnt most rch tl nc M Y C T CA CB CN CG CS Z K) (fun zq => (w - zq.1).toNat) ?_ (0, ls) ⟨⟨by dsimp only; omega, hS1, hI3⟩, lv_sub hl [1, 2, 3, 4, 5, 0] rfl⟩ hP hD hS
          intro zq H locs hq hP hD hS ih
          obtain ⟨x, ls⟩ := zq
          obtain ⟨⟨hI1, hS1, hI3⟩, hl⟩ := hq
          try dsimp only at hI1 hS1 hI3 hl ih hP hD ⊢
          have hP : zP G (mdL G md ma mb mc mt m1 m2 m3 m4 m5 m6 m7 cd w h cnt most rch tl nc M Y C T CA CB CN CG CS Z K) H := hP
          have hD : va_D A (mdL G md ma mb mc mt m1 m2 m3 m4 m5 m6 m7 cd w h cnt most rch tl nc M Y C T CA CB CN CG CS Z K) := hD
          have ih81 := ih
          refine lv_iload hx hb dX5_packed_81 (lv_at hl 5 rfl) ?_
          refine lv_aload_n hx hb dX5_packed_83 rfl (lv_at hl 0 rfl) ?_
          refine gf_X5_56 hx hb hT hown hK hP 0 rfl rfl dX5_packed_84 ?_
          refine z_icmp_ge (tgt := 180) hx hb dX5_packed_87 (by decide) (by omega) (by omega) (fun h87 => ?_) (fun h87 => ?_)
          · skip
            refine lv_iinc (v := zI (y + (1))) (lv' := [(4, .int (zI (y + (1)))), (0, .ref md), (1, .int (zI (k))), (2, .int (zI (i))), (3, .int (zI ((cntB (stR (PPf Y w (w * h)) (w * h) w k) (x + w * y).toNat - 1)))), (5, .int (zI (x)))]) hx hb dX5_packed_180 hl (k := 4) rfl (zI_add _ _) (by decide) rfl (fun ls hl => ?_)
            refine z_goto (tgt := 69) hx hb dX5_packed_183 (by decide) ?_
            have hmu := Int.mul_add w y 1
            rw [show (x + w * y) = w * (y + 1) by omega] at hl hS1 hI3
            exact ih69 (y + 1, ls) _ _ ⟨⟨by dsimp only; omega, hS1, hI3⟩, lv_sub hl [1, 2, 3, 4, 0] rfl⟩ (by omega) hP hD hS
          · skip
            have hpc := pt_b (w := w) (h := h) (x := x) (y := y) (by omega) (by omega)
            have hc9 := cntB_b (stR (PPf Y w (w * h)) (w * h) w k) (x + w * y).toNat
            have hs9 := bI_01 ((stR (PPf Y w (w * h)) (w * h) w k) (x + w * y))
            have hcs := cntB_s (stR (PPf Y w (w * h)) (w * h) w k) (k := (x + w * y)) (by omega)
            refine lv_iload_n hx hb dX5_packed_90 rfl (lv_at hl 3 rfl) ?_
            refine lv_aload_n hx hb dX5_packed_91 rfl (lv_at hl 0 rfl) ?_
            refine lv_iload hx hb dX5_packed_92 (lv_at hl 5 rfl) ?_
            refine lv_iload hx hb dX5_packed_94 (lv_at hl 4 rfl) ?_
            refine lv_iload_n hx hb dX5_packed_96 rfl (lv_at hl 1 rfl) ?_
            refine z_callV (q0 := 0) (G := G) (As := [.int (zI (x)), .int (zI (y)), .int (zI (k))]) (rest := [.int (zI ((cntB (stR (PPf Y w (w * h)) (w * h) w k) (x + w * y).toNat - 1)))]) hx hb hml hown hT hK (c_X5_begins l G md ma mb mc mt m1 m2 m3 m4 m5 m6 m7 cd w h cnt most rch tl nc M Y C T CA CB CN CG CS Z K (x) (y) (k) hm (by omega) (by omega) (by omega)) kc_X5_142 ⟨Nat.le_of_ble_eq_true rfl, Nat.le_of_ble_eq_true rfl⟩ ⟨rfl, rfl⟩ ⟨Nat.le_of_ble_eq_true rfl, Nat.le_of_ble_eq_true rfl⟩ hP rfl rfl rfl rfl hl.1 rfl (Nat.le_of_ble_eq_true rfl) dX5_packed_97 ?_
            refine z_if_eq (tgt := 107) hx hb dX5_packed_100 (by decide) (by omega) (fun h100 => ?_) (fun h100 => ?_)
            · skip
              refine z_iconst hx hb dX5_packed_107 ?_
              refine z_iadd hx hb dX5_packed_108 ?_
              refine z_top ((cntB (stR (PPf Y w (w * h)) (w * h) w k) ((x + w * y) + 1).toNat - 1)) (by omega) ?_
              refine lv_istore_n (lv' := [(3, .int (zI ((cntB (stR (PPf Y w (w * h)) (w * h) w k) ((x + w * y) + 1).toNat - 1)))), (0, .ref md), (1, .int (zI (k))), (2, .int (zI (i))), (4, .int (zI (y))), (5, .int (zI (x)))]) hx hb dX5_packed_109 rfl hl (by decide) rfl (fun ls hl => ?_)
              refine lv_iload_n hx hb dX5_packed_110 rfl (lv_at hl 0 rfl) ?_
              refine lv_iload_n hx hb dX5_packed_111 rfl (lv_at hl 3 rfl) ?_
              refine z_iconst hx hb dX5_packed_112 ?_
              refine z_idiv hx hb dX5_packed_113 (by omega) (by omega) ?_
              refine z_icmp_ne (tgt := 174) hx hb dX5_packed_114 (by decide) (by omega) (by omega) (fun h114 => ?_) (fun h114 => ?_)
              · skip
                refine lv_iinc (v := zI (x + (1))) (lv' := [(5, .int (zI (x + (1)))), (3, .int (zI ((cntB (stR (PPf Y w (w * h)) (w * h) w k) ((x + w * y) + 1).toNat - 1)))), (0, .ref md), (1, .int (zI (k))), (2, .int (zI (i))), (4, .int (zI (y)))]) hx hb dX5_packed_174 hl (k := 5) rfl (zI_add _ _) (by decide) rfl (fun ls hl => ?_)
                refine z_goto (tgt := 81) hx hb dX5_packed_177 (by decide) ?_
                rw [show (x + w * y) + 1 = x + 1 + w * y by omega] at hl
                exact ih81 (x + 1, ls) _ _ ⟨⟨by dsimp only; omega, by dsimp only; rw [show x + 1 + w * y = (x + w * y) + 1 by omega, srF_s _ _ (by omega), if_pos hS1]; exact if_neg (fun h9 => by rw [h9.1] at hcs; have hb1 : bI true = 1 := rfl; omega), by dsimp only; rw [show x + 1 + w * y = (x + w * y) + 1 by omega]; omega⟩, lv_sub hl [2, 3, 4, 1, 5, 0] rfl⟩ (by omega) hP hD hS
              · skip
                have hft : (stR (PPf Y w (w * h)) (w * h) w k) (x + w * y) = true := by cases hz : (stR (PPf Y w (w * h)) (w * h) w k) (x + w * y) with | true => rfl | false => (rw [hz] at hcs; have hb0 : bI false = 0 := rfl; omega)
                have hfc : cntB (stR (PPf Y w (w * h)) (w * h) w k) (x + w * y).toNat = i / 2 := by rw [hft] at hcs; have hb1 : bI true = 1 := rfl; omega
                have hs3 : srF (stR (PPf Y w (w * h)) (w * h) w k) (i / 2) ((x + w * y) + 1).toNat = (x + w * y) := by rw [srF_s _ _ (by omega), if_pos hS1, if_pos ⟨hft, hfc⟩]
                have hST : (srF (stR (PPf Y w (w * h)) (w * h) w k) (i / 2) (w * h).toNat) = (x + w * y) := by rw [srF_st _ _ (a := ((x + w * y) + 1).toNat) (by omega) (by omega), hs3]
                refine lv_iload hx hb dX5_packed_117 (lv_at hl 5 rfl) ?_
                refine z_iconst hx hb dX5_packed_119 ?_
                refine z_iadd hx hb dX5_packed_120 ?_
                refine lv_istore (lv' := [(6, .int (zI ((x + 1)))), (3, .int (zI ((cntB (stR (PPf Y w (w * h)) (w * h) w k) ((x + w * y) + 1).toNat - 1)))), (0, .ref md), (1, .int (zI (k))), (2, .int (zI (i))), (4, .int (zI (y))), (5, .int (zI (x)))]) hx hb dX5_packed_121 hl (by decide) rfl (fun ls hl => ?_)
                refine z_loopH (σ := Int × Array Slot) (fun zq => F0 m 123 (zq.2) []) (fun zq => ((x < zq.1 ∧ zq.1 ≤ w) ∧ ∀ j, x < j → j < zq.1 → (stR (PPf Y w (w * h)) (w * h) w k) (j + w * y) = false) ∧ lv_has (zq.2) 7 [(0, .ref md), (1, .int (zI (k))), (2, .int (zI (i))), (4, .int (zI (y))), (5, .int (zI (x))), (6, .int (zI (zq.1)))]) (fun zq => mdL G md ma mb mc mt m1 m2 m3 m4 m5 m6 m7 cd w h cnt most rch tl nc M Y C T CA CB CN CG CS Z K) (fun zq => (w - zq.1).toNat) ?_ ((x + 1), ls) ⟨⟨by dsimp only; omega, fun j h1 h2 => by dsimp only at h2; omega⟩, lv_sub hl [2, 3, 4, 5, 6, 0] rfl⟩ hP hD hS
                intro zq H locs hq hP hD hS ih
                obtain ⟨to, ls⟩ := zq
                obtain ⟨⟨hJ, hJ2⟩, hl⟩ := hq
                try dsimp only at hJ hJ2 hl ih hP hD ⊢
                have hP : zP G (mdL G md ma mb mc mt m1 m2 m3 m4 m5 m6 m7 cd w h cnt most rch tl nc M Y C T CA CB CN CG CS Z K) H := hP
                have hD : va_D A (mdL G md ma mb mc mt m1 m2 m3 m4 m5 m6 m7 cd w h cnt most rch tl nc M Y C T CA CB CN CG CS Z K) := hD
                have ih123 := ih
                refine lv_iload hx hb dX5_packed_123 (lv_at hl 5 rfl) ?_
                refine lv_aload_n hx hb dX5_packed_125 rfl (lv_at hl 0 rfl) ?_
                refine gf_X5_56 hx hb hT hown hK hP 0 rfl rfl dX5_packed_126 ?_
                refine z_icmp_ge (tgt := 150) hx hb dX5_packed_129 (by decide) (by omega) (by omega) (fun h129 => ?_) (fun h129 => ?_)
                · skip
                  have hpe := pt_b (w := w) (h := h) (x := x) (y := y) (by omega) (by omega)
                  have hmu := Int.mul_add w y 1
                  have hmh := Int.mul_le_mul_of_nonneg_left (a := y + 1) (b := h) (c := w) (by omega) (by omega)
                  have hEN : to + w * y = endV (stR (PPf Y w (w * h)) (w * h) w k) (x + w * y) (w * h) := end_eq ⟨by omega, fun j h1 h2 => by have h3 := hJ2 (j - w * y) (by omega) (by omega); rwa [show j - w * y + w * y = j by omega] at h3, by first | exact Or.inr (bI_t.mp h141) | exact pk_end (by omega) (by omega) (by omega)⟩
                  refine lv_iload_n hx hb dX5_packed_150 rfl (lv_at hl 2 rfl) ?_
                  refine z_iconst hx hb dX5_packed_151 ?_
                  refine z_irem hx hb dX5_packed_152 (by omega) (by omega) ?_
                  refine z_if_ne (tgt := 164) hx hb dX5_packed_153 (by decide) (by omega) (fun h153 => ?_) (fun h153 => ?_)
                  · skip
                    refine lv_aload_n hx hb dX5_packed_164 rfl (lv_at hl 0 rfl) ?_
                    refine lv_iload hx hb dX5_packed_165 (lv_at hl 4 rfl) ?_
                    refine lv_iload hx hb dX5_packed_167 (lv_at hl 3 rfl) ?_
                    refine lv_iload_n hx hb dX5_packed_169 rfl (lv_at hl 1 rfl) ?_
                    refine z_callV (q0 := 0) (G := G) (As := [.int (zI (x)), .int (zI (y)), .int (zI (k))]) (rest := []) hx hb hml hown hT hK (c_X5_byteAt l G md ma mb mc mt m1 m2 m3 m4 m5 m6 m7 cd w h cnt most rch tl nc M Y C T CA CB CN CG CS Z K (x) (y) (k) hm (by omega) (by omega) (by omega)) kc_X5_87 ⟨Nat.le_of_ble_eq_true rfl, Nat.le_of_ble_eq_true rfl⟩ ⟨rfl, rfl⟩ ⟨Nat.le_of_ble_eq_true rfl, Nat.le_of_ble_eq_true rfl⟩ hP rfl rfl rfl rfl hl.1 rfl (Nat.le_of_ble_eq_true rfl) dX5_packed_170 ?_
                    have hQ : mdL G md ma mb mc mt m1 m2 m3 m4 m5 m6 m7 (cPac k i cnt (2 * cntB (stR (PPf Y w (w * h)) (w * h) w k) (w * h).toNat)) w h cnt most rch tl nc M Y C T CA CB CN CG CS Z K = mdL G md ma mb mc mt m1 m2 m3 m4 m5 m6 m7 cd w h cnt most rch tl nc M Y C T CA CB CN CG CS Z K := by rw [← ecd] <;> (by_cases hc0 : cd = 0) <;> first | (exfalso; omega) | (simp only [if_pos hc0]; done) | (simp only [if_neg hc0]; done) | rfl
                    exact z_wri () hx hb hr hlocks hK (by rw [hQ]; exact hP) (by rw [hQ]; exact hD) hS (trivial) (by rw [← ecd, if_pos (by omega : cd = 0), if_neg hin, hST, ← hEN]; first | (rw [if_pos h153]; omega) | (rw [if_neg h153])) dX5_packed_173
                  · skip
                    refine lv_iload hx hb dX5_packed_156 (lv_at hl 5 rfl) ?_
                    refine lv_iload hx hb dX5_packed_158 (lv_at hl 4 rfl) ?_
                    refine z_isub hx hb dX5_packed_160 ?_
                    refine z_goto (tgt := 173) hx hb dX5_packed_161 (by decide) ?_
                    have hQ : mdL G md ma mb mc mt m1 m2 m3 m4 m5 m6 m7 (cPac k i cnt (2 * cntB (stR (PPf Y w (w * h)) (w * h) w k) (w * h).toNat)) w h cnt most rch tl nc M Y C T CA CB CN CG CS Z K = mdL G md ma mb mc mt m1 m2 m3 m4 m5 m6 m7 cd w h cnt most rch tl nc M Y C T CA CB CN CG CS Z K := by rw [← ecd] <;> (by_cases hc0 : cd = 0) <;> first | (exfalso; omega) | (simp only [if_pos hc0]; done) | (simp only [if_neg hc0]; done) | rfl
                    exact z_wri () hx hb hr hlocks hK (by rw [hQ]; exact hP) (by rw [hQ]; exact hD) hS (trivial) (by rw [← ecd, if_pos (by omega : cd = 0), if_neg hin, hST, ← hEN]; first | (rw [if_pos h153]; omega) | (rw [if_neg h153])) dX5_packed_173
                · skip
                  have hs8 := bI_01 ((stR (PPf Y w (w * h)) (w * h) w k) (to + w * y))
                  refine lv_aload_n hx hb dX5_packed_132 rfl (lv_at hl 0 rfl) ?_
                  refine lv_iload hx hb dX5_packed_133 (lv_at hl 5 rfl) ?_
                  refine lv_iload hx hb dX5_packed_135 (lv_at hl 3 rfl) ?_
                  refine lv_iload_n hx hb dX5_packed_137 rfl (lv_at hl 1 rfl) ?_
                  refine z_callV (q0 := 0) (G := G) (As := [.int (zI (to)), .int (zI (y)), .int (zI (k))]) (rest := []) hx hb hml hown hT hK (c_X5_begins l G md ma mb mc mt m1 m2 m3 m4 m5 m6 m7 cd w h cnt most rch tl nc M Y C T CA CB CN CG CS Z K (to) (y) (k) hm (by omega) (by omega) (by omega)) kc_X5_142 ⟨Nat.le_of_ble_eq_true rfl, Nat.le_of_ble_eq_true rfl⟩ ⟨rfl, rfl⟩ ⟨Nat.le_of_ble_eq_true rfl, Nat.le_of_ble_eq_true rfl⟩ hP rfl rfl rfl rfl hl.1 rfl (Nat.le_of_ble_eq_true rfl) dX5_packed_138 ?_
                  refine z_if_ne (tgt := 150) hx hb dX5_packed_141 (by decide) (by omega) (fun h141 => ?_) (fun h141 => ?_)
                  · skip
                    have hpe := pt_b (w := w) (h := h) (x := x) (y := y) (by omega) (by omega)
                    have hmu := Int.mul_add w y 1
                    have hmh := Int.mul_le_mul_of_nonneg_left (a := y + 1) (b := h) (c := w) (by omega) (by omega)
                    have hEN : to + w * y = endV (stR (PPf Y w (w * h)) (w * h) w k) (x + w * y) (w * h) := end_eq ⟨by omega, fun j h1 h2 => by have h3 := hJ2 (j - w * y) (by omega) (by omega); rwa [show j - w * y + w * y = j by omega] at h3, by first | exact Or.inr (bI_t.mp h141) | exact pk_end (by omega) (by omega) (by omega)⟩
                    refine lv_iload_n hx hb dX5_packed_150 rfl (lv_at hl 2 rfl) ?_
                    refine z_iconst hx hb dX5_packed_151 ?_
                    refine z_irem hx hb dX5_packed_152 (by omega) (by omega) ?_
                    refine z_if_ne (tgt := 164) hx hb dX5_packed_153 (by decide) (by omega) (fun h153 => ?_) (fun h153 => ?_)
                    · skip
                      refine lv_aload_n hx hb dX5_packed_164 rfl (lv_at hl 0 rfl) ?_
                      refine lv_iload hx hb dX5_packed_165 (lv_at hl 4 rfl) ?_
                      refine lv_iload hx hb dX5_packed_167 (lv_at hl 3 rfl) ?_
                      refine lv_iload_n hx hb dX5_packed_169 rfl (lv_at hl 1 rfl) ?_
                      refine z_callV (q0 := 0) (G := G) (As := [.int (zI (x)), .int (zI (y)), .int (zI (k))]) (rest := []) hx hb hml hown hT hK (c_X5_byteAt l G md ma mb mc mt m1 m2 m3 m4 m5 m6 m7 cd w h cnt most rch tl nc M Y C T CA CB CN CG CS Z K (x) (y) (k) hm (by omega) (by omega) (by omega)) kc_X5_87 ⟨Nat.le_of_ble_eq_true rfl, Nat.le_of_ble_eq_true rfl⟩ ⟨rfl, rfl⟩ ⟨Nat.le_of_ble_eq_true rfl, Nat.le_of_ble_eq_true rfl⟩ hP rfl rfl rfl rfl hl.1 rfl (Nat.le_of_ble_eq_true rfl) dX5_packed_170 ?_
                      have hQ : mdL G md ma mb mc mt m1 m2 m3 m4 m5 m6 m7 (cPac k i cnt (2 * cntB (stR (PPf Y w (w * h)) (w * h) w k) (w * h).toNat)) w h cnt most rch tl nc M Y C T CA CB CN CG CS Z K = mdL G md ma mb mc mt m1 m2 m3 m4 m5 m6 m7 cd w h cnt most rch tl nc M Y C T CA CB CN CG CS Z K := by rw [← ecd] <;> (by_cases hc0 : cd = 0) <;> first | (exfalso; omega) | (simp only [if_pos hc0]; done) | (simp only [if_neg hc0]; done) | rfl
                      exact z_wri () hx hb hr hlocks hK (by rw [hQ]; exact hP) (by rw [hQ]; exact hD) hS (trivial) (by rw [← ecd, if_pos (by omega : cd = 0), if_neg hin, hST, ← hEN]; first | (rw [if_pos h153]; omega) | (rw [if_neg h153])) dX5_packed_173
                    · skip
                      refine lv_iload hx hb dX5_packed_156 (lv_at hl 5 rfl) ?_
                      refine lv_iload hx hb dX5_packed_158 (lv_at hl 4 rfl) ?_
                      refine z_isub hx hb dX5_packed_160 ?_
                      refine z_goto (tgt := 173) hx hb dX5_packed_161 (by decide) ?_
                      have hQ : mdL G md ma mb mc mt m1 m2 m3 m4 m5 m6 m7 (cPac k i cnt (2 * cntB (stR (PPf Y w (w * h)) (w * h) w k) (w * h).toNat)) w h cnt most rch tl nc M Y C T CA CB CN CG CS Z K = mdL G md ma mb mc mt m1 m2 m3 m4 m5 m6 m7 cd w h cnt most rch tl nc M Y C T CA CB CN CG CS Z K := by rw [← ecd] <;> (by_cases hc0 : cd = 0) <;> first | (exfalso; omega) | (simp only [if_pos hc0]; done) | (simp only [if_neg hc0]; done) | rfl
                      exact z_wri () hx hb hr hlocks hK (by rw [hQ]; exact hP) (by rw [hQ]; exact hD) hS (trivial) (by rw [← ecd, if_pos (by omega : cd = 0), if_neg hin, hST, ← hEN]; first | (rw [if_pos h153]; omega) | (rw [if_neg h153])) dX5_packed_173
                  · skip
                    refine lv_iinc (v := zI (to + (1))) (lv' := [(6, .int (zI (to + (1)))), (0, .ref md), (1, .int (zI (k))), (2, .int (zI (i))), (4, .int (zI (y))), (5, .int (zI (x)))]) hx hb dX5_packed_144 hl (k := 5) rfl (zI_add _ _) (by decide) rfl (fun ls hl => ?_)
                    refine z_goto (tgt := 123) hx hb dX5_packed_147 (by decide) ?_
                    exact ih123 (to + 1, ls) _ _ ⟨⟨by dsimp only; omega, fun j h1 h2 => by dsimp only at h2; by_cases hj : j = to; (rw [hj]; exact bI_f.mp h141); exact hJ2 j h1 (by omega)⟩, lv_sub hl [1, 2, 3, 4, 5, 0] rfl⟩ (by omega) hP hD hS
            · skip
              refine z_iconst hx hb dX5_packed_103 ?_
              refine z_goto (tgt := 108) hx hb dX5_packed_104 (by decide) ?_
              refine z_iadd hx hb dX5_packed_108 ?_
              refine z_top ((cntB (stR (PPf Y w (w * h)) (w * h) w k) ((x + w * y) + 1).toNat - 1)) (by omega) ?_
              refine lv_istore_n (lv' := [(3, .int (zI ((cntB (stR (PPf Y w (w * h)) (w * h) w k) ((x + w * y) + 1).toNat - 1)))), (0, .ref md), (1, .int (zI (k))), (2, .int (zI (i))), (4, .int (zI (y))), (5, .int (zI (x)))]) hx hb dX5_packed_109 rfl hl (by decide) rfl (fun ls hl => ?_)
              refine lv_iload_n hx hb dX5_packed_110 rfl (lv_at hl 0 rfl) ?_
              refine lv_iload_n hx hb dX5_packed_111 rfl (lv_at hl 3 rfl) ?_
              refine z_iconst hx hb dX5_packed_112 ?_
              refine z_idiv hx hb dX5_packed_113 (by omega) (by omega) ?_
              refine z_icmp_ne (tgt := 174) hx hb dX5_packed_114 (by decide) (by omega) (by omega) (fun h114 => ?_) (fun h114 => ?_)
              · skip
                refine lv_iinc (v := zI (x + (1))) (lv' := [(5, .int (zI (x + (1)))), (3, .int (zI ((cntB (stR (PPf Y w (w * h)) (w * h) w k) ((x + w * y) + 1).toNat - 1)))), (0, .ref md), (1, .int (zI (k))), (2, .int (zI (i))), (4, .int (zI (y)))]) hx hb dX5_packed_174 hl (k := 5) rfl (zI_add _ _) (by decide) rfl (fun ls hl => ?_)
                refine z_goto (tgt := 81) hx hb dX5_packed_177 (by decide) ?_
                rw [show (x + w * y) + 1 = x + 1 + w * y by omega] at hl
                exact ih81 (x + 1, ls) _ _ ⟨⟨by dsimp only; omega, by dsimp only; rw [show x + 1 + w * y = (x + w * y) + 1 by omega, srF_s _ _ (by omega), if_pos hS1]; exact if_neg (fun h9 => by rw [h9.1] at hcs; have hb1 : bI true = 1 := rfl; omega), by dsimp only; rw [show x + 1 + w * y = (x + w * y) + 1 by omega]; omega⟩, lv_sub hl [2, 3, 4, 1, 5, 0] rfl⟩ (by omega) hP hD hS
              · skip
                have hft : (stR (PPf Y w (w * h)) (w * h) w k) (x + w * y) = true := by cases hz : (stR (PPf Y w (w * h)) (w * h) w k) (x + w * y) with | true => rfl | false => (rw [hz] at hcs; have hb0 : bI false = 0 := rfl; omega)
                have hfc : cntB (stR (PPf Y w (w * h)) (w * h) w k) (x + w * y).toNat = i / 2 := by rw [hft] at hcs; have hb1 : bI true = 1 := rfl; omega
                have hs3 : srF (stR (PPf Y w (w * h)) (w * h) w k) (i / 2) ((x + w * y) + 1).toNat = (x + w * y) := by rw [srF_s _ _ (by omega), if_pos hS1, if_pos ⟨hft, hfc⟩]
                have hST : (srF (stR (PPf Y w (w * h)) (w * h) w k) (i / 2) (w * h).toNat) = (x + w * y) := by rw [srF_st _ _ (a := ((x + w * y) + 1).toNat) (by omega) (by omega), hs3]
                refine lv_iload hx hb dX5_packed_117 (lv_at hl 5 rfl) ?_
                refine z_iconst hx hb dX5_packed_119 ?_
                refine z_iadd hx hb dX5_packed_120 ?_
                refine lv_istore (lv' := [(6, .int (zI ((x + 1)))), (3, .int (zI ((cntB (stR (PPf Y w (w * h)) (w * h) w k) ((x + w * y) + 1).toNat - 1)))), (0, .ref md), (1, .int (zI (k))), (2, .int (zI (i))), (4, .int (zI (y))), (5, .int (zI (x)))]) hx hb dX5_packed_121 hl (by decide) rfl (fun ls hl => ?_)
                refine z_loopH (σ := Int × Array Slot) (fun zq => F0 m 123 (zq.2) []) (fun zq => ((x < zq.1 ∧ zq.1 ≤ w) ∧ ∀ j, x < j → j < zq.1 → (stR (PPf Y w (w * h)) (w * h) w k) (j + w * y) = false) ∧ lv_has (zq.2) 7 [(0, .ref md), (1, .int (zI (k))), (2, .int (zI (i))), (4, .int (zI (y))), (5, .int (zI (x))), (6, .int (zI (zq.1)))]) (fun zq => mdL G md ma mb mc mt m1 m2 m3 m4 m5 m6 m7 cd w h cnt most rch tl nc M Y C T CA CB CN CG CS Z K) (fun zq => (w - zq.1).toNat) ?_ ((x + 1), ls) ⟨⟨by dsimp only; omega, fun j h1 h2 => by dsimp only at h2; omega⟩, lv_sub hl [2, 3, 4, 5, 6, 0] rfl⟩ hP hD hS
                intro zq H locs hq hP hD hS ih
                obtain ⟨to, ls⟩ := zq
                obtain ⟨⟨hJ, hJ2⟩, hl⟩ := hq
                try dsimp only at hJ hJ2 hl ih hP hD ⊢
                have hP : zP G (mdL G md ma mb mc mt m1 m2 m3 m4 m5 m6 m7 cd w h cnt most rch tl nc M Y C T CA CB CN CG CS Z K) H := hP
                have hD : va_D A (mdL G md ma mb mc mt m1 m2 m3 m4 m5 m6 m7 cd w h cnt most rch tl nc M Y C T CA CB CN CG CS Z K) := hD
                have ih123 := ih
                refine lv_iload hx hb dX5_packed_123 (lv_at hl 5 rfl) ?_
                refine lv_aload_n hx hb dX5_packed_125 rfl (lv_at hl 0 rfl) ?_
                refine gf_X5_56 hx hb hT hown hK hP 0 rfl rfl dX5_packed_126 ?_
                refine z_icmp_ge (tgt := 150) hx hb dX5_packed_129 (by decide) (by omega) (by omega) (fun h129 => ?_) (fun h129 => ?_)
                · skip
                  have hpe := pt_b (w := w) (h := h) (x := x) (y := y) (by omega) (by omega)
                  have hmu := Int.mul_add w y 1
                  have hmh := Int.mul_le_mul_of_nonneg_left (a := y + 1) (b := h) (c := w) (by omega) (by omega)
                  have hEN : to + w * y = endV (stR (PPf Y w (w * h)) (w * h) w k) (x + w * y) (w * h) := end_eq ⟨by omega, fun j h1 h2 => by have h3 := hJ2 (j - w * y) (by omega) (by omega); rwa [show j - w * y + w * y = j by omega] at h3, by first | exact Or.inr (bI_t.mp h141) | exact pk_end (by omega) (by omega) (by omega)⟩
                  refine lv_iload_n hx hb dX5_packed_150 rfl (lv_at hl 2 rfl) ?_
                  refine z_iconst hx hb dX5_packed_151 ?_
                  refine z_irem hx hb dX5_packed_152 (by omega) (by omega) ?_
                  refine z_if_ne (tgt := 164) hx hb dX5_packed_153 (by decide) (by omega) (fun h153 => ?_) (fun h153 => ?_)
                  · skip
                    refine lv_aload_n hx hb dX5_packed_164 rfl (lv_at hl 0 rfl) ?_
                    refine lv_iload hx hb dX5_packed_165 (lv_at hl 4 rfl) ?_
                    refine lv_iload hx hb dX5_packed_167 (lv_at hl 3 rfl) ?_
                    refine lv_iload_n hx hb dX5_packed_169 rfl (lv_at hl 1 rfl) ?_
                    refine z_callV (q0 := 0) (G := G) (As := [.int (zI (x)), .int (zI (y)), .int (zI (k))]) (rest := []) hx hb hml hown hT hK (c_X5_byteAt l G md ma mb mc mt m1 m2 m3 m4 m5 m6 m7 cd w h cnt most rch tl nc M Y C T CA CB CN CG CS Z K (x) (y) (k) hm (by omega) (by omega) (by omega)) kc_X5_87 ⟨Nat.le_of_ble_eq_true rfl, Nat.le_of_ble_eq_true rfl⟩ ⟨rfl, rfl⟩ ⟨Nat.le_of_ble_eq_true rfl, Nat.le_of_ble_eq_true rfl⟩ hP rfl rfl rfl rfl hl.1 rfl (Nat.le_of_ble_eq_true rfl) dX5_packed_170 ?_
                    have hQ : mdL G md ma mb mc mt m1 m2 m3 m4 m5 m6 m7 (cPac k i cnt (2 * cntB (stR (PPf Y w (w * h)) (w * h) w k) (w * h).toNat)) w h cnt most rch tl nc M Y C T CA CB CN CG CS Z K = mdL G md ma mb mc mt m1 m2 m3 m4 m5 m6 m7 cd w h cnt most rch tl nc M Y C T CA CB CN CG CS Z K := by rw [← ecd] <;> (by_cases hc0 : cd = 0) <;> first | (exfalso; omega) | (simp only [if_pos hc0]; done) | (simp only [if_neg hc0]; done) | rfl
                    exact z_wri () hx hb hr hlocks hK (by rw [hQ]; exact hP) (by rw [hQ]; exact hD) hS (trivial) (by rw [← ecd, if_pos (by omega : cd = 0), if_neg hin, hST, ← hEN]; first | (rw [if_pos h153]; omega) | (rw [if_neg h153])) dX5_packed_173
                  · skip
                    refine lv_iload hx hb dX5_packed_156 (lv_at hl 5 rfl) ?_
                    refine lv_iload hx hb dX5_packed_158 (lv_at hl 4 rfl) ?_
                    refine z_isub hx hb dX5_packed_160 ?_
                    refine z_goto (tgt := 173) hx hb dX5_packed_161 (by decide) ?_
                    have hQ : mdL G md ma mb mc mt m1 m2 m3 m4 m5 m6 m7 (cPac k i cnt (2 * cntB (stR (PPf Y w (w * h)) (w * h) w k) (w * h).toNat)) w h cnt most rch tl nc M Y C T CA CB CN CG CS Z K = mdL G md ma mb mc mt m1 m2 m3 m4 m5 m6 m7 cd w h cnt most rch tl nc M Y C T CA CB CN CG CS Z K := by rw [← ecd] <;> (by_cases hc0 : cd = 0) <;> first | (exfalso; omega) | (simp only [if_pos hc0]; done) | (simp only [if_neg hc0]; done) | rfl
                    exact z_wri () hx hb hr hlocks hK (by rw [hQ]; exact hP) (by rw [hQ]; exact hD) hS (trivial) (by rw [← ecd, if_pos (by omega : cd = 0), if_neg hin, hST, ← hEN]; first | (rw [if_pos h153]; omega) | (rw [if_neg h153])) dX5_packed_173
                · skip
                  have hs8 := bI_01 ((stR (PPf Y w (w * h)) (w * h) w k) (to + w * y))
                  refine lv_aload_n hx hb dX5_packed_132 rfl (lv_at hl 0 rfl) ?_
                  refine lv_iload hx hb dX5_packed_133 (lv_at hl 5 rfl) ?_
                  refine lv_iload hx hb dX5_packed_135 (lv_at hl 3 rfl) ?_
                  refine lv_iload_n hx hb dX5_packed_137 rfl (lv_at hl 1 rfl) ?_
                  refine z_callV (q0 := 0) (G := G) (As := [.int (zI (to)), .int (zI (y)), .int (zI (k))]) (rest := []) hx hb hml hown hT hK (c_X5_begins l G md ma mb mc mt m1 m2 m3 m4 m5 m6 m7 cd w h cnt most rch tl nc M Y C T CA CB CN CG CS Z K (to) (y) (k) hm (by omega) (by omega) (by omega)) kc_X5_142 ⟨Nat.le_of_ble_eq_true rfl, Nat.le_of_ble_eq_true rfl⟩ ⟨rfl, rfl⟩ ⟨Nat.le_of_ble_eq_true rfl, Nat.le_of_ble_eq_true rfl⟩ hP rfl rfl rfl rfl hl.1 rfl (Nat.le_of_ble_eq_true rfl) dX5_packed_138 ?_
                  refine z_if_ne (tgt := 150) hx hb dX5_packed_141 (by decide) (by omega) (fun h141 => ?_) (fun h141 => ?_)
                  · skip
                    have hpe := pt_b (w := w) (h := h) (x := x) (y := y) (by omega) (by omega)
                    have hmu := Int.mul_add w y 1
                    have hmh := Int.mul_le_mul_of_nonneg_left (a := y + 1) (b := h) (c := w) (by omega) (by omega)
                    have hEN : to + w * y = endV (stR (PPf Y w (w * h)) (w * h) w k) (x + w * y) (w * h) := end_eq ⟨by omega, fun j h1 h2 => by have h3 := hJ2 (j - w * y) (by omega) (by omega); rwa [show j - w * y + w * y = j by omega] at h3, by first | exact Or.inr (bI_t.mp h141) | exact pk_end (by omega) (by omega) (by omega)⟩
                    refine lv_iload_n hx hb dX5_packed_150 rfl (lv_at hl 2 rfl) ?_
                    refine z_iconst hx hb dX5_packed_151 ?_
                    refine z_irem hx hb dX5_packed_152 (by omega) (by omega) ?_
                    refine z_if_ne (tgt := 164) hx hb dX5_packed_153 (by decide) (by omega) (fun h153 => ?_) (fun h153 => ?_)
                    · skip
                      refine lv_aload_n hx hb dX5_packed_164 rfl (lv_at hl 0 rfl) ?_
                      refine lv_iload hx hb dX5_packed_165 (lv_at hl 4 rfl) ?_
                      refine lv_iload hx hb dX5_packed_167 (lv_at hl 3 rfl) ?_
                      refine lv_iload_n hx hb dX5_packed_169 rfl (lv_at hl 1 rfl) ?_
                      refine z_callV (q0 := 0) (G := G) (As := [.int (zI (x)), .int (zI (y)), .int (zI (k))]) (rest := []) hx hb hml hown hT hK (c_X5_byteAt l G md ma mb mc mt m1 m2 m3 m4 m5 m6 m7 cd w h cnt most rch tl nc M Y C T CA CB CN CG CS Z K (x) (y) (k) hm (by omega) (by omega) (by omega)) kc_X5_87 ⟨Nat.le_of_ble_eq_true rfl, Nat.le_of_ble_eq_true rfl⟩ ⟨rfl, rfl⟩ ⟨Nat.le_of_ble_eq_true rfl, Nat.le_of_ble_eq_true rfl⟩ hP rfl rfl rfl rfl hl.1 rfl (Nat.le_of_ble_eq_true rfl) dX5_packed_170 ?_
                      have hQ : mdL G md ma mb mc mt m1 m2 m3 m4 m5 m6 m7 (cPac k i cnt (2 * cntB (stR (PPf Y w (w * h)) (w * h) w k) (w * h).toNat)) w h cnt most rch tl nc M Y C T CA CB CN CG CS Z K = mdL G md ma mb mc mt m1 m2 m3 m4 m5 m6 m7 cd w h cnt most rch tl nc M Y C T CA CB CN CG CS Z K := by rw [← ecd] <;> (by_cases hc0 : cd = 0) <;> first | (exfalso; omega) | (simp only [if_pos hc0]; done) | (simp only [if_neg hc0]; done) | rfl
                      exact z_wri () hx hb hr hlocks hK (by rw [hQ]; exact hP) (by rw [hQ]; exact hD) hS (trivial) (by rw [← ecd, if_pos (by omega : cd = 0), if_neg hin, hST, ← hEN]; first | (rw [if_pos h153]; omega) | (rw [if_neg h153])) dX5_packed_173
                    · skip
                      refine lv_iload hx hb dX5_packed_156 (lv_at hl 5 rfl) ?_
                      refine lv_iload hx hb dX5_packed_158 (lv_at hl 4 rfl) ?_
                      refine z_isub hx hb dX5_packed_160 ?_
                      refine z_goto (tgt := 173) hx hb dX5_packed_161 (by decide) ?_
                      have hQ : mdL G md ma mb mc mt m1 m2 m3 m4 m5 m6 m7 (cPac k i cnt (2 * cntB (stR (PPf Y w (w * h)) (w * h) w k) (w * h).toNat)) w h cnt most rch tl nc M Y C T CA CB CN CG CS Z K = mdL G md ma mb mc mt m1 m2 m3 m4 m5 m6 m7 cd w h cnt most rch tl nc M Y C T CA CB CN CG CS Z K := by rw [← ecd] <;> (by_cases hc0 : cd = 0) <;> first | (exfalso; omega) | (simp only [if_pos hc0]; done) | (simp only [if_neg hc0]; done) | rfl
                      exact z_wri () hx hb hr hlocks hK (by rw [hQ]; exact hP) (by rw [hQ]; exact hD) hS (trivial) (by rw [← ecd, if_pos (by omega : cd = 0), if_neg hin, hST, ← hEN]; first | (rw [if_pos h153]; omega) | (rw [if_neg h153])) dX5_packed_173
                  · skip
                    refine lv_iinc (v := zI (to + (1))) (lv' := [(6, .int (zI (to + (1)))), (0, .ref md), (1, .int (zI (k))), (2, .int (zI (i))), (4, .int (zI (y))), (5, .int (zI (x)))]) hx hb dX5_packed_144 hl (k := 5) rfl (zI_add _ _) (by decide) rfl (fun ls hl => ?_)
                    refine z_goto (tgt := 123) hx hb dX5_packed_147 (by decide) ?_
                    exact ih123 (to + 1, ls) _ _ ⟨⟨by dsimp only; omega, fun j h1 h2 => by dsimp only at h2; by_cases hj : j = to; (rw [hj]; exact bI_f.mp h141); exact hJ2 j h1 (by omega)⟩, lv_sub hl [1, 2, 3, 4, 5, 0] rfl⟩ (by omega) hP hD hS
      · skip
        refine lv_aload_n hx hb dX5_packed_45 rfl (lv_at hl 0 rfl) ?_
        refine gf_X5_62 hx hb hT hown hK hP 0 rfl rfl dX5_packed_46 ?_
        refine z_if_le (tgt := 56) hx hb dX5_packed_49 (by decide) (by omega) (fun h49 => ?_) (fun h49 => ?_)
        · skip
          have hk8 := hcz (by omega)
          have hcb0 := cntB_b (stR (PPf Y w (w * h)) (w * h) w k) (w * h).toNat
          refine z_iconst hx hb dX5_packed_56 ?_
          refine lv_aload_n hx hb dX5_packed_57 rfl (lv_at hl 0 rfl) ?_
          refine lv_iload_n hx hb dX5_packed_58 rfl (lv_at hl 1 rfl) ?_
          refine z_callV (q0 := 0) (G := G) (As := [.int (zI (k))]) (rest := [.int (zI (2))]) hx hb hml hown hT hK (c_X5_runsOf l G md ma mb mc mt m1 m2 m3 m4 m5 m6 m7 cd w h cnt most rch tl nc M Y C T CA CB CN CG CS Z K (k) hm (by omega)) kc_X5_146 ⟨Nat.le_of_ble_eq_true rfl, Nat.le_of_ble_eq_true rfl⟩ ⟨rfl, rfl⟩ ⟨Nat.le_of_ble_eq_true rfl, Nat.le_of_ble_eq_true rfl⟩ hP rfl rfl rfl rfl hl.1 rfl (Nat.le_of_ble_eq_true rfl) dX5_packed_59 ?_
          refine z_imul hx hb dX5_packed_62 ?_
          have hQ : mdL G md ma mb mc mt m1 m2 m3 m4 m5 m6 m7 (cPac k i cnt (2 * cntB (stR (PPf Y w (w * h)) (w * h) w k) (w * h).toNat)) w h cnt most rch tl nc M Y C T CA CB CN CG CS Z K = mdL G md ma mb mc mt m1 m2 m3 m4 m5 m6 m7 cd w h cnt most rch tl nc M Y C T CA CB CN CG CS Z K := by rw [← ecd] <;> (by_cases hc0 : cd = 0) <;> first | (exfalso; omega) | (simp only [if_pos hc0]; done) | (simp only [if_neg hc0]; done) | rfl
          exact z_wri () hx hb hr hlocks hK (by rw [hQ]; exact hP) (by rw [hQ]; exact hD) hS (trivial) (by rw [← ecd]; first | (exfalso; omega) | (rw [if_pos (by omega : cd = 0), if_pos (by omega : i = -1)]) | (rw [if_neg (by omega : ¬ cd = 0)])) dX5_packed_63
        · skip
          refine z_iconst hx hb dX5_packed_52 ?_
          refine z_goto (tgt := 63) hx hb dX5_packed_53 (by decide) ?_
          have hQ : mdL G md ma mb mc mt m1 m2 m3 m4 m5 m6 m7 (cPac k i cnt (2 * cntB (stR (PPf Y w (w * h)) (w * h) w k) (w * h).toNat)) w h cnt most rch tl nc M Y C T CA CB CN CG CS Z K = mdL G md ma mb mc mt m1 m2 m3 m4 m5 m6 m7 cd w h cnt most rch tl nc M Y C T CA CB CN CG CS Z K := by rw [← ecd] <;> (by_cases hc0 : cd = 0) <;> first | (exfalso; omega) | (simp only [if_pos hc0]; done) | (simp only [if_neg hc0]; done) | rfl
          exact z_wri () hx hb hr hlocks hK (by rw [hQ]; exact hP) (by rw [hQ]; exact hD) hS (trivial) (by rw [← ecd]; first | (exfalso; omega) | (rw [if_pos (by omega : cd = 0), if_pos (by omega : i = -1)]) | (rw [if_neg (by omega : ¬ cd = 0)])) dX5_packed_63
  intro J30
  refine lv_aload_n hx hb dX5_packed_1 rfl (lv_at hl 0 rfl) ?_
  refine lv_iload_n hx hb dX5_packed_2 rfl (lv_at hl 1 rfl) ?_
  refine z_callV (q0 := 0) (G := G) (As := [.int (zI (k))]) (rest := [.ref md]) hx hb hml hown hT hK (c_X5_isInk l G md ma mb mc mt m1 m2 m3 m4 m5 m6 m7 th w h cnt most rch tl nc M Y C T CA CB CN CG CS Z K (k) hm (by omega)) kc_X5_69 ⟨Nat.le_of_ble_eq_true rfl, Nat.le_of_ble_eq_true rfl⟩ ⟨rfl, rfl⟩ ⟨Nat.le_of_ble_eq_true rfl, Nat.le_of_ble_eq_true rfl⟩ hP rfl rfl rfl rfl hl.1 rfl (Nat.le_of_ble_eq_true rfl) dX5_packed_3 ?_
  refine z_if_eq (tgt := 29) hx hb dX5_packed_6 (by decide) (bI_rng _) (fun h6 => ?_) (fun h6 => ?_)
  · skip
    have h6 := bI_f.mp h6
    simp only [Bool.and_eq_true, Bool.and_eq_false_iff, Bool.or_eq_true, Bool.or_eq_false_iff, decide_eq_true_eq, decide_eq_false_iff_not] at h6
    refine z_iconst hx hb dX5_packed_29 ?_
    refine z_top (cPac k i cnt (2 * cntB (stR (PPf Y w (w * h)) (w * h) w k) (w * h).toNat)) (by unfold cPac; (repeat' split) <;> omega) ?_
    exact J30 (ls) _ _ ⟨trivial, lv_sub hl [0, 1, 2] rfl⟩ hP hD hS
  · skip
    have h6 := bI_t.mp h6
    simp only [Bool.and_eq_true, Bool.and_eq_false_iff, Bool.or_eq_true, Bool.or_eq_false_iff, decide_eq_true_eq, decide_eq_false_iff_not] at h6
    refine lv_iload_n hx hb dX5_packed_9 rfl (lv_at hl 2 rfl) ?_
    refine z_iconst hx hb dX5_packed_10 ?_
    refine z_icmp_lt (tgt := 29) hx hb dX5_packed_11 (by decide) (by omega) (by omega) (fun h11 => ?_) (fun h11 => ?_)
    · skip
      refine z_iconst hx hb dX5_packed_29 ?_
      refine z_top (cPac k i cnt (2 * cntB (stR (PPf Y w (w * h)) (w * h) w k) (w * h).toNat)) (by unfold cPac; (repeat' split) <;> omega) ?_
      exact J30 (ls) _ _ ⟨trivial, lv_sub hl [0, 1, 2] rfl⟩ hP hD hS
    · skip
      refine lv_iload_n hx hb dX5_packed_14 rfl (lv_at hl 2 rfl) ?_
      refine z_iconst hx hb dX5_packed_15 ?_
      have hk0 : 0 ≤ k ∧ k < 8 := by omega
      refine lv_aload_n hx hb dX5_packed_16 rfl (lv_at hl 0 rfl) ?_
      refine lv_iload_n hx hb dX5_packed_17 rfl (lv_at hl 1 rfl) ?_
      refine z_callV (q0 := 0) (G := G) (As := [.int (zI (k))]) (rest := [.int (zI (2)), .int (zI (i)), .ref md]) hx hb hml hown hT hK (c_X5_runsOf l G md ma mb mc mt m1 m2 m3 m4 m5 m6 m7 th w h cnt most rch tl nc M Y C T CA CB CN CG CS Z K (k) hm (by omega)) kc_X5_146 ⟨Nat.le_of_ble_eq_true rfl, Nat.le_of_ble_eq_true rfl⟩ ⟨rfl, rfl⟩ ⟨Nat.le_of_ble_eq_true rfl, Nat.le_of_ble_eq_true rfl⟩ hP rfl rfl rfl rfl hl.1 rfl (Nat.le_of_ble_eq_true rfl) dX5_packed_18 ?_
      have hcb0 := cntB_b (stR (PPf Y w (w * h)) (w * h) w k) (w * h).toNat
      refine z_imul hx hb dX5_packed_21 ?_
      refine z_icmp_ge (tgt := 29) hx hb dX5_packed_22 (by decide) (by omega) (by omega) (fun h22 => ?_) (fun h22 => ?_)
      · skip
        refine z_iconst hx hb dX5_packed_29 ?_
        refine z_top (cPac k i cnt (2 * cntB (stR (PPf Y w (w * h)) (w * h) w k) (w * h).toNat)) (by unfold cPac; (repeat' split) <;> omega) ?_
        exact J30 (ls) _ _ ⟨trivial, lv_sub hl [0, 1, 2] rfl⟩ hP hD hS
      · skip
        refine z_iconst hx hb dX5_packed_25 ?_
        refine z_goto (tgt := 30) hx hb dX5_packed_26 (by decide) ?_
        refine z_top (cPac k i cnt (2 * cntB (stR (PPf Y w (w * h)) (w * h) w k) (w * h).toNat)) (by unfold cPac; (repeat' split) <;> omega) ?_
        exact J30 (ls) _ _ ⟨trivial, lv_sub hl [0, 1, 2] rfl⟩ hP hD hS

set_option maxHeartbeats 4000000 in
set_option maxRecDepth 100000 in
theorem c_X5_covered (l : Launch) (G : zG) (md ma mb mc mt m1 m2 m3 m4 m5 m6 m7 : Nat) (th w h cnt most rch tl nc : Int) (M Y C T CA CB CN CG CS Z K : Int → Int) (k : Int) (hm : mdOK w h cnt most rch tl nc M Y C T CN CG CS K) (hk : -2147483648 ≤ k ∧ k ≤ 2147483647) : zWl l yX5_covered cX5_covered 6 (some .long) { frames := 1, cells := 0, slots := 0, locals := 23 } G [.ref md, .int (zI (k))] (mdL G md ma mb mc mt m1 m2 m3 m4 m5 m6 m7 th w h cnt most rch tl nc M Y C T CA CB CN CG CS Z K) (S := Unit) (fun u => if cCov k cnt = 0 then (zsum (fun p9 => (PPf Y w (w * h)) (k * (w * h) + p9)) (w * h).toNat) else 0) (fun u => True) (fun u => mdL G md ma mb mc mt m1 m2 m3 m4 m5 m6 m7 (cCov k cnt) w h cnt most rch tl nc M Y C T CA CB CN CG CS Z K) := by
  intro sz
  refine Met.ofW (cc := cX5_covered) (maxL := 6) (ret := (some .long)) (by decide) rfl ?_
  intro p e s m args below meth c s₁ B hml hv
  obtain ⟨rfl, hsz, hP, hK, hD0⟩ := hv
  have hx := B.exec
  have hb := B.bytes
  have hr := B.returns
  have hT : ∀ w ∈ TB, w.before _ s = true := fun w h => atoms_spec (ws := Cond.code yX5_covered cX5_covered 6 (some .long) :: TB) B.pre w (List.mem_cons_of_mem _ h)
  have hown : s.vm.findClass RX5 = some m.cls := findClass_of_methodNamed B.named
  have hlocks := B.notSynchronized
  subst hsz
  have hD := hD0.self (sz := s.heap.size)
  generalize hAe : va_A (mdL G md ma mb mc mt m1 m2 m3 m4 m5 m6 m7 th w h cnt most rch tl nc M Y C T CA CB CN CG CS Z K) s.heap.size = A at hD ⊢
  have hA : ∀ q : Nat, s.heap.size ≤ q → A q := fun q h => by rw [← hAe]; exact Or.inr h
  have hS : va_S A s.heap s.heap [] := va_S.rf
  have hP : zP G (mdL G md ma mb mc mt m1 m2 m3 m4 m5 m6 m7 th w h cnt most rch tl nc M Y C T CA CB CN CG CS Z K) s.heap := hP
  have hD : va_D A (mdL G md ma mb mc mt m1 m2 m3 m4 m5 m6 m7 th w h cnt most rch tl nc M Y C T CA CB CN CG CS Z K) := hD
  have hl := lv_entry ([.ref md, .int (zI (k))]) (n := 6) (Nat.le_of_ble_eq_true rfl)
  rw [lg_entry_eq]
  generalize (lg_sl ([.ref md, .int (zI (k))]) ++ List.replicate (6 - (lg_sl ([.ref md, .int (zI (k))])).length) Slot.unset).toArray = ls at hl ⊢
  have hl : lv_has ls 6 [(0, .ref md), (1, .int (zI (k)))] := hl
  obtain ⟨hw, hh, hcnt, hmost, hrch, hM, hY, hC, hTb, hT0, hT5, htl, hnc, hcl, hKb⟩ := id hm
  have hpt := md_pts hm
  have hPb : ∀ j, 0 ≤ PPf Y w (w * h) j ∧ PPf Y w (w * h) j ≤ 255 := fun j => hY _
  refine lv_aload_n hx hb dX5_covered_0 rfl (lv_at hl 0 rfl) ?_
  refine z_cutH (A := A) (H0 := s.heap) (G := G) (σ := Array Slot) (fun zq => F0 m 14 (zq) [.int (zI (cCov k cnt)), .ref md]) (fun zq => (True) ∧ lv_has (zq) 6 [(0, .ref md), (1, .int (zI (k)))]) (fun zq => mdL G md ma mb mc mt m1 m2 m3 m4 m5 m6 m7 th w h cnt most rch tl nc M Y C T CA CB CN CG CS Z K) ?_ ?_
  · intro ls H locs hq hP hD hS
    obtain ⟨hJ, hl⟩ := hq
    try dsimp only at hJ hl hP hD ⊢
    have hP : zP G (mdL G md ma mb mc mt m1 m2 m3 m4 m5 m6 m7 th w h cnt most rch tl nc M Y C T CA CB CN CG CS Z K) H := hP
    have hD : va_D A (mdL G md ma mb mc mt m1 m2 m3 m4 m5 m6 m7 th w h cnt most rch tl nc M Y C T CA CB CN CG CS Z K) := hD
    obtain ⟨cd, ecd⟩ : ∃ z : Int, z = cCov k cnt := ⟨_, rfl⟩
    refine z_top cd ecd.symm ?_
    have hcd : 0 ≤ cd ∧ cd ≤ 1 := by rw [ecd]; unfold cCov; (repeat' split) <;> omega
    have hcz : cd = 0 → 0 ≤ k ∧ k < cnt := fun h9 => by rw [ecd] at h9; revert h9; unfold cCov; (repeat' split) <;> omega
    refine pf_X5_62 (ws' := mdL G md ma mb mc mt m1 m2 m3 m4 m5 m6 m7 cd w h cnt most rch tl nc M Y C T CA CB CN CG CS Z K) hx hb hT hown hK hP hD hS 0 rfl (Nat.le_of_ble_eq_true rfl) rfl rfl rfl dX5_covered_14 (fun H locs hP hD hS => ?_)
    refine lv_lconst (v := zL 0) hx hb dX5_covered_17 rfl ?_
    refine z_topl (zsum (fun p9 => (PPf Y w (w * h)) (k * (w * h) + p9)) (w * 0).toNat) (by rw [Int.mul_zero]; rfl) ?_
    refine lv_lstore_n (lv' := [(2, .long (zL (zsum (fun p9 => (PPf Y w (w * h)) (k * (w * h) + p9)) (w * 0).toNat))), (0, .ref md), (1, .int (zI (k)))]) hx hb dX5_covered_18 rfl hl (by decide) rfl (fun ls hl => ?_)
    refine z_iconst hx hb dX5_covered_19 ?_
    refine lv_istore (lv' := [(4, .int (zI (0))), (2, .long (zL (zsum (fun p9 => (PPf Y w (w * h)) (k * (w * h) + p9)) (w * 0).toNat))), (0, .ref md), (1, .int (zI (k)))]) hx hb dX5_covered_20 hl (by decide) rfl (fun ls hl => ?_)
    refine z_loopH (σ := Int × Array Slot) (fun zq => F0 m 22 (zq.2) []) (fun zq => ((0 ≤ zq.1 ∧ zq.1 ≤ h) ∧ (cd ≠ 0 → zq.1 = 0)) ∧ lv_has (zq.2) 6 [(0, .ref md), (1, .int (zI (k))), (2, .long (zL (zsum (fun p9 => (PPf Y w (w * h)) (k * (w * h) + p9)) (w * zq.1).toNat))), (4, .int (zI (zq.1)))]) (fun zq => mdL G md ma mb mc mt m1 m2 m3 m4 m5 m6 m7 cd w h cnt most rch tl nc M Y C T CA CB CN CG CS Z K) (fun zq => (h - zq.1).toNat) ?_ (0, ls) ⟨⟨by dsimp only; omega, fun _ => rfl⟩, lv_sub hl [2, 3, 1, 0] rfl⟩ hP hD hS
    intro zq H locs hq hP hD hS ih
    obtain ⟨y, ls⟩ := zq
    obtain ⟨⟨hI, hI2⟩, hl⟩ := hq
    try dsimp only at hI hI2 hl ih hP hD ⊢
    have hP : zP G (mdL G md ma mb mc mt m1 m2 m3 m4 m5 m6 m7 cd w h cnt most rch tl nc M Y C T CA CB CN CG CS Z K) H := hP
    have hD : va_D A (mdL G md ma mb mc mt m1 m2 m3 m4 m5 m6 m7 cd w h cnt most rch tl nc M Y C T CA CB CN CG CS Z K) := hD
    have ih22 := ih
    refine lv_iload hx hb dX5_covered_22 (lv_at hl 3 rfl) ?_
    refine lv_aload_n hx hb dX5_covered_24 rfl (lv_at hl 0 rfl) ?_
    refine gf_X5_59 hx hb hT hown hK hP 0 rfl rfl dX5_covered_25 ?_
    refine z_icmp_ge (tgt := 75) hx hb dX5_covered_28 (by decide) (by omega) (by omega) (fun h28 => ?_) (fun h28 => ?_)
    · skip
      refine lv_lload_n hx hb dX5_covered_75 rfl (lv_at hl 2 rfl) ?_
      have hQ : mdL G md ma mb mc mt m1 m2 m3 m4 m5 m6 m7 (cCov k cnt) w h cnt most rch tl nc M Y C T CA CB CN CG CS Z K = mdL G md ma mb mc mt m1 m2 m3 m4 m5 m6 m7 cd w h cnt most rch tl nc M Y C T CA CB CN CG CS Z K := by rw [← ecd] <;> (by_cases hc0 : cd = 0) <;> first | (exfalso; omega) | (simp only [if_pos hc0]; done) | (simp only [if_neg hc0]; done) | rfl
      exact z_wrl () hx hb hr hlocks hK (by rw [hQ]; exact hP) (by rw [hQ]; exact hD) hS (trivial) (by rw [← ecd]; by_cases hc0 : cd = 0; (rw [if_pos hc0, show y = h by omega]); (rw [if_neg hc0, hI2 hc0, Int.mul_zero]; rfl)) dX5_covered_76
    · skip
      refine lv_aload_n hx hb dX5_covered_31 rfl (lv_at hl 0 rfl) ?_
      refine gf_X5_62 hx hb hT hown hK hP 0 rfl rfl dX5_covered_32 ?_
      refine z_if_ne (tgt := 75) hx hb dX5_covered_35 (by decide) (by omega) (fun h35 => ?_) (fun h35 => ?_)
      · skip
        refine lv_lload_n hx hb dX5_covered_75 rfl (lv_at hl 2 rfl) ?_
        have hQ : mdL G md ma mb mc mt m1 m2 m3 m4 m5 m6 m7 (cCov k cnt) w h cnt most rch tl nc M Y C T CA CB CN CG CS Z K = mdL G md ma mb mc mt m1 m2 m3 m4 m5 m6 m7 cd w h cnt most rch tl nc M Y C T CA CB CN CG CS Z K := by rw [← ecd] <;> (by_cases hc0 : cd = 0) <;> first | (exfalso; omega) | (simp only [if_pos hc0]; done) | (simp only [if_neg hc0]; done) | rfl
        exact z_wrl () hx hb hr hlocks hK (by rw [hQ]; exact hP) (by rw [hQ]; exact hD) hS (trivial) (by rw [← ecd]; by_cases hc0 : cd = 0; (rw [if_pos hc0, show y = h by omega]); (rw [if_neg hc0, hI2 hc0, Int.mul_zero]; rfl)) dX5_covered_76
      · skip
        have hk8 := hcz h35
        refine z_iconst hx hb dX5_covered_38 ?_
        refine lv_istore (lv' := [(5, .int (zI (0))), (0, .ref md), (1, .int (zI (k))), (2, .long (zL (zsum (fun p9 => (PPf Y w (w * h)) (k * (w * h) + p9)) (w * y).toNat))), (4, .int (zI (y)))]) hx hb dX5_covered_39 hl (by decide) rfl (fun ls hl => ?_)
        rw [show w * y = 0 + w * y by omega] at hl
        refine z_loopH (σ := Int × Array Slot) (fun zq => F0 m 41 (zq.2) []) (fun zq => (0 ≤ zq.1 ∧ zq.1 ≤ w) ∧ lv_has (zq.2) 6 [(0, .ref md), (1, .int (zI (k))), (2, .long (zL (zsum (fun p9 => (PPf Y w (w * h)) (k * (w * h) + p9)) (zq.1 + w * y).toNat))), (4, .int (zI (y))), (5, .int (zI (zq.1)))]) (fun zq => mdL G md ma mb mc mt m1 m2 m3 m4 m5 m6 m7 cd w h cnt most rch tl nc M Y C T CA CB CN CG CS Z K) (fun zq => (w - zq.1).toNat) ?_ (0, ls) ⟨by refine ⟨?_, ?_⟩ <;> omega, lv_sub hl [1, 2, 3, 4, 0] rfl⟩ hP hD hS
        intro zq H locs hq hP hD hS ih
        obtain ⟨x, ls⟩ := zq
        obtain ⟨hI1, hl⟩ := hq
        try dsimp only at hI1 hl ih hP hD ⊢
        have hP : zP G (mdL G md ma mb mc mt m1 m2 m3 m4 m5 m6 m7 cd w h cnt most rch tl nc M Y C T CA CB CN CG CS Z K) H := hP
        have hD : va_D A (mdL G md ma mb mc mt m1 m2 m3 m4 m5 m6 m7 cd w h cnt most rch tl nc M Y C T CA CB CN CG CS Z K) := hD
        have ih41 := ih
        refine lv_iload hx hb dX5_covered_41 (lv_at hl 4 rfl) ?_
        refine lv_aload_n hx hb dX5_covered_43 rfl (lv_at hl 0 rfl) ?_
        refine gf_X5_56 hx hb hT hown hK hP 0 rfl rfl dX5_covered_44 ?_
        refine z_icmp_ge (tgt := 69) hx hb dX5_covered_47 (by decide) (by omega) (by omega) (fun h47 => ?_) (fun h47 => ?_)
        · skip
          refine lv_iinc (v := zI (y + (1))) (lv' := [(4, .int (zI (y + (1)))), (0, .ref md), (1, .int (zI (k))), (2, .long (zL (zsum (fun p9 => (PPf Y w (w * h)) (k * (w * h) + p9)) (x + w * y).toNat))), (5, .int (zI (x)))]) hx hb dX5_covered_69 hl (k := 3) rfl (zI_add _ _) (by decide) rfl (fun ls hl => ?_)
          refine z_goto (tgt := 22) hx hb dX5_covered_72 (by decide) ?_
          have hmu := Int.mul_add w y 1
          rw [show (x + w * y) = w * (y + 1) by omega] at hl
          exact ih22 (y + 1, ls) _ _ ⟨⟨by dsimp only; omega, fun h9 => absurd h35 h9⟩, lv_sub hl [1, 2, 3, 0] rfl⟩ (by omega) hP hD hS
        · skip
          have hpc := pt_b (w := w) (h := h) (x := x) (y := y) (by omega) (by omega)
          have hpp := hPb (k * (w * h) + (x + w * y))
          refine lv_lload_n hx hb dX5_covered_50 rfl (lv_at hl 2 rfl) ?_
          refine lv_aload_n hx hb dX5_covered_51 rfl (lv_at hl 0 rfl) ?_
          refine lv_iload hx hb dX5_covered_52 (lv_at hl 4 rfl) ?_
          refine lv_iload hx hb dX5_covered_54 (lv_at hl 3 rfl) ?_
          refine lv_iload_n hx hb dX5_covered_56 rfl (lv_at hl 1 rfl) ?_
          refine z_callV (q0 := 0) (G := G) (As := [.int (zI (x)), .int (zI (y)), .int (zI (k))]) (rest := [.long (zL (zsum (fun p9 => (PPf Y w (w * h)) (k * (w * h) + p9)) (x + w * y).toNat))]) hx hb hml hown hT hK (c_X5_byteAt l G md ma mb mc mt m1 m2 m3 m4 m5 m6 m7 cd w h cnt most rch tl nc M Y C T CA CB CN CG CS Z K (x) (y) (k) hm (by omega) (by omega) (by omega)) kc_X5_87 ⟨Nat.le_of_ble_eq_true rfl, Nat.le_of_ble_eq_true rfl⟩ ⟨rfl, rfl⟩ ⟨Nat.le_of_ble_eq_true rfl, Nat.le_of_ble_eq_true rfl⟩ hP rfl rfl rfl rfl hl.1 rfl (Nat.le_of_ble_eq_true rfl) dX5_covered_57 ?_
          refine z_i2l hx hb dX5_covered_60 (by omega) ?_
          refine z_ladd hx hb dX5_covered_61 ?_
          refine z_topl (zsum (fun p9 => (PPf Y w (w * h)) (k * (w * h) + p9)) (x + w * y + 1).toNat) ((zsum_s _ (by omega)).symm) ?_
          refine lv_lstore_n (lv' := [(2, .long (zL (zsum (fun p9 => (PPf Y w (w * h)) (k * (w * h) + p9)) (x + w * y + 1).toNat))), (0, .ref md), (1, .int (zI (k))), (4, .int (zI (y))), (5, .int (zI (x)))]) hx hb dX5_covered_62 rfl hl (by decide) rfl (fun ls hl => ?_)
          refine lv_iinc (v := zI (x + (1))) (lv' := [(5, .int (zI (x + (1)))), (2, .long (zL (zsum (fun p9 => (PPf Y w (w * h)) (k * (w * h) + p9)) (x + w * y + 1).toNat))), (0, .ref md), (1, .int (zI (k))), (4, .int (zI (y)))]) hx hb dX5_covered_63 hl (k := 4) rfl (zI_add _ _) (by decide) rfl (fun ls hl => ?_)
          refine z_goto (tgt := 41) hx hb dX5_covered_66 (by decide) ?_
          rw [show x + w * y + 1 = x + 1 + w * y by omega] at hl
          exact ih41 (x + 1, ls) _ _ ⟨by refine ⟨?_, ?_⟩ <;> omega, lv_sub hl [2, 3, 1, 4, 0] rfl⟩ (by omega) hP hD hS
  intro J14
  refine lv_aload_n hx hb dX5_covered_1 rfl (lv_at hl 0 rfl) ?_
  refine lv_iload_n hx hb dX5_covered_2 rfl (lv_at hl 1 rfl) ?_
  refine z_callV (q0 := 0) (G := G) (As := [.int (zI (k))]) (rest := [.ref md]) hx hb hml hown hT hK (c_X5_isInk l G md ma mb mc mt m1 m2 m3 m4 m5 m6 m7 th w h cnt most rch tl nc M Y C T CA CB CN CG CS Z K (k) hm (by omega)) kc_X5_69 ⟨Nat.le_of_ble_eq_true rfl, Nat.le_of_ble_eq_true rfl⟩ ⟨rfl, rfl⟩ ⟨Nat.le_of_ble_eq_true rfl, Nat.le_of_ble_eq_true rfl⟩ hP rfl rfl rfl rfl hl.1 rfl (Nat.le_of_ble_eq_true rfl) dX5_covered_3 ?_
  refine z_if_eq (tgt := 13) hx hb dX5_covered_6 (by decide) (bI_rng _) (fun h6 => ?_) (fun h6 => ?_)
  · skip
    have h6 := bI_f.mp h6
    simp only [Bool.and_eq_true, Bool.and_eq_false_iff, Bool.or_eq_true, Bool.or_eq_false_iff, decide_eq_true_eq, decide_eq_false_iff_not] at h6
    refine z_iconst hx hb dX5_covered_13 ?_
    refine z_top (cCov k cnt) (by unfold cCov; (repeat' split) <;> omega) ?_
    exact J14 (ls) _ _ ⟨trivial, lv_sub hl [0, 1] rfl⟩ hP hD hS
  · skip
    have h6 := bI_t.mp h6
    simp only [Bool.and_eq_true, Bool.and_eq_false_iff, Bool.or_eq_true, Bool.or_eq_false_iff, decide_eq_true_eq, decide_eq_false_iff_not] at h6
    refine z_iconst hx hb dX5_covered_9 ?_
    refine z_goto (tgt := 14) hx hb dX5_covered_10 (by decide) ?_
    refine z_top (cCov k cnt) (by unfold cCov; (repeat' split) <;> omega) ?_
    exact J14 (ls) _ _ ⟨trivial, lv_sub hl [0, 1] rfl⟩ hP hD hS

/-! ===== what each call's code is: 0, or which of the exceptions that it names ===== -/
theorem bI_rng (b : Bool) : -2147483648 ≤ bI b ∧ bI b ≤ 2147483647 := by have := bI_01 b; omega
def cInk (a b c d cnt : Int) : Int := if (0 ≤ a ∧ a ≤ 255) ∧ (0 ≤ b ∧ b ≤ 255) ∧ (0 ≤ c ∧ c ≤ 255) ∧ (0 ≤ d ∧ d ≤ 255) then (if cnt = 8 then 2 else 0) else 1
def cCol (k v cnt : Int) : Int := if v < -1 ∨ 255 < v then 1 else if 0 ≤ k ∧ k < cnt then 0 else 2
def cLim (v : Int) : Int := if v < 0 ∨ 2040 < v then 1 else 0
def cWid (v : Int) : Int := if v < 0 ∨ 3 < v then 1 else 0
def cPla (k x y way cnt w h : Int) : Int := if way < 0 ∨ 3 < way then 1 else if (0 ≤ k ∧ k < cnt) ∧ (0 ≤ x ∧ x < w) ∧ (0 ≤ y ∧ y < h) then 0 else 2
def cSee (x y b w h : Int) : Int := if (0 ≤ x ∧ x < w) ∧ (0 ≤ y ∧ y < h) ∧ (0 ≤ b ∧ b < 3) then 0 else 1
def cLen (x y w h : Int) : Int := if (0 ≤ x ∧ x < w) ∧ (0 ≤ y ∧ y < h) then 0 else 1
def cGai (v x full : Int) : Int := if (0 ≤ v ∧ v ≤ 255) ∧ (0 ≤ x ∧ x ≤ 255) then (if full = 1 then 2 else 0) else 1
def cRan (c i nc n : Int) : Int := if (0 ≤ c ∧ c < nc) ∧ (-1 ≤ i ∧ i < n) then 0 else 1
def cSam (c x y nc : Int) : Int := if 0 ≤ c ∧ c < nc then (if (-1000000 ≤ x ∧ x ≤ 1000000) ∧ (-1000000 ≤ y ∧ y ≤ 1000000) then 0 else 2) else 1
def cPri (c k x y nc cnt w h : Int) : Int := if (0 ≤ c ∧ c < nc) ∧ (0 ≤ k ∧ k < cnt) ∧ (0 ≤ x ∧ x < w) ∧ (0 ≤ y ∧ y < h) then 0 else 1
def cCov (k cnt : Int) : Int := if 0 ≤ k ∧ k < cnt then 0 else 1
def cPac (k i cnt n : Int) : Int := if (0 ≤ k ∧ k < cnt) ∧ (-1 ≤ i ∧ i < n) then 0 else 1
section ZZ
variable {p : Program} {l : Launch} {e : Env} {R : Room} {s : State} {m : MethodId} {args : Array Value} {below : List Frame} {meth : Method} {c : Code} {H : Heap} {locs : List Loc} {cells slots : Nat} {cc : ByteArray} {pc : Nat} {ls : Array Slot} {G : zG}
theorem z_wrz {A : Nat → Prop} {S : Type} {v : S → Int} {ok : S → Prop} {ws2 : S → va_W} {val : Int} (u : S) (hx : p.tables.exec = Jvm.exec) (hb : c.code = cc) (hr : meth.sig.returnType = some .boolean) (hlocks : meth.locks = false) (hK : zK G s) (hP : zP G (ws2 u) H) (hD : va_D A (ws2 u)) (hS : va_S A s.heap H locs) (hok : ok u) (h01 : val = 0 ∨ val = 1) (hv : val = v u) (hd : decode cc pc = .ok (.ireturn, 1)) : W p l e R s m args below meth c H locs cells slots (MQ below (va_Qi (fun r u => r = zI (v u) ∧ ok u) (zB G A ws2) A) args s cells slots A) (F0 m pc ls [.int (zI val)]) :=
  W.zret hx hb hr (by rcases h01 with rfl | rfl <;> decide) (fun t ht hW => ⟨⟨_, u, rfl, ⟨by rw [hv], hok⟩, by rw [ht]; exact hP, va_K.moved hW.alike hK, hD⟩, hS.F ht⟩) hS.2.2 hd hlocks
end ZZ

set_option maxHeartbeats 4000000 in
set_option maxRecDepth 100000 in
theorem c_X5_ink (l : Launch) (G : zG) (md ma mb mc mt m1 m2 m3 m4 m5 m6 m7 : Nat) (th w h cnt most rch tl nc : Int) (M Y C T CA CB CN CG CS Z K : Int → Int) (a1 a2 a3 a4 : Int) (hm : mdOK w h cnt most rch tl nc M Y C T CN CG CS K) (ha1 : -2147483648 ≤ a1 ∧ a1 ≤ 2147483647) (ha2 : -2147483648 ≤ a2 ∧ a2 ≤ 2147483647) (ha3 : -2147483648 ≤ a3 ∧ a3 ≤ 2147483647) (ha4 : -2147483648 ≤ a4 ∧ a4 ≤ 2147483647) : zWi l yX5_ink cX5_ink 5 (some .int) { frames := 1, cells := 0, slots := 0, locals := 20 } G [.ref md, .int (zI (a1)), .int (zI (a2)), .int (zI (a3)), .int (zI (a4))] (mdL G md ma mb mc mt m1 m2 m3 m4 m5 m6 m7 th w h cnt most rch tl nc M Y C T CA CB CN CG CS Z K) (S := Unit) (fun u => if cInk a1 a2 a3 a4 cnt = 0 then cnt else 0) (fun u => True) (fun u => mdL G md ma mb mc mt m1 m2 m3 m4 m5 m6 m7 (cInk a1 a2 a3 a4 cnt) w h (if cInk a1 a2 a3 a4 cnt = 0 then cnt + 1 else cnt) most rch tl nc (if cInk a1 a2 a3 a4 cnt = 0 then (zu (zu (zu (zu M (cnt * 4) a1) (cnt * 4 + 1) a2) (cnt * 4 + 2) a3) (cnt * 4 + 3) a4) else M) Y C T CA CB CN CG CS Z K) := by
  intro sz
  refine Met.ofW (cc := cX5_ink) (maxL := 5) (ret := (some .int)) (by decide) rfl ?_
  intro p e s m args below meth c s₁ B hml hv
  obtain ⟨rfl, hsz, hP, hK, hD0⟩ := hv
  have hx := B.exec
  have hb := B.bytes
  have hr := B.returns
  have hT : ∀ w ∈ TB, w.before _ s = true := fun w h => atoms_spec (ws := Cond.code yX5_ink cX5_ink 5 (some .int) :: TB) B.pre w (List.mem_cons_of_mem _ h)
  have hown : s.vm.findClass RX5 = some m.cls := findClass_of_methodNamed B.named
  have hlocks := B.notSynchronized
  subst hsz
  have hD := hD0.self (sz := s.heap.size)
  generalize hAe : va_A (mdL G md ma mb mc mt m1 m2 m3 m4 m5 m6 m7 th w h cnt most rch tl nc M Y C T CA CB CN CG CS Z K) s.heap.size = A at hD ⊢
  have hA : ∀ q : Nat, s.heap.size ≤ q → A q := fun q h => by rw [← hAe]; exact Or.inr h
  have hS : va_S A s.heap s.heap [] := va_S.rf
  have hP : zP G (mdL G md ma mb mc mt m1 m2 m3 m4 m5 m6 m7 th w h cnt most rch tl nc M Y C T CA CB CN CG CS Z K) s.heap := hP
  have hD : va_D A (mdL G md ma mb mc mt m1 m2 m3 m4 m5 m6 m7 th w h cnt most rch tl nc M Y C T CA CB CN CG CS Z K) := hD
  have hl := lv_entry ([.ref md, .int (zI (a1)), .int (zI (a2)), .int (zI (a3)), .int (zI (a4))]) (n := 5) (Nat.le_of_ble_eq_true rfl)
  rw [lg_entry_eq]
  generalize (lg_sl ([.ref md, .int (zI (a1)), .int (zI (a2)), .int (zI (a3)), .int (zI (a4))]) ++ List.replicate (5 - (lg_sl ([.ref md, .int (zI (a1)), .int (zI (a2)), .int (zI (a3)), .int (zI (a4))])).length) Slot.unset).toArray = ls at hl ⊢
  have hl : lv_has ls 5 [(0, .ref md), (1, .int (zI (a1))), (2, .int (zI (a2))), (3, .int (zI (a3))), (4, .int (zI (a4)))] := hl
  obtain ⟨hw, hh, hcnt, hmost, hrch, hM, hY, hC, hTb, hT0, hT5, htl, hnc, hcl, hKb⟩ := id hm
  have hpt := md_pts hm
  have hPb : ∀ j, 0 ≤ PPf Y w (w * h) j ∧ PPf Y w (w * h) j ≤ 255 := fun j => hY _
  refine lv_aload_n hx hb dX5_ink_0 rfl (lv_at hl 0 rfl) ?_
  refine z_cutH (A := A) (H0 := s.heap) (G := G) (σ := Array Slot) (fun zq => F0 m 48 (zq) [.int (zI (cInk a1 a2 a3 a4 cnt)), .ref md]) (fun zq => (True) ∧ lv_has (zq) 5 [(0, .ref md), (1, .int (zI (a1))), (2, .int (zI (a2))), (3, .int (zI (a3))), (4, .int (zI (a4)))]) (fun zq => mdL G md ma mb mc mt m1 m2 m3 m4 m5 m6 m7 th w h cnt most rch tl nc M Y C T CA CB CN CG CS Z K) ?_ ?_
  · intro ls H locs hq hP hD hS
    obtain ⟨hJ, hl⟩ := hq
    try dsimp only at hJ hl hP hD ⊢
    have hP : zP G (mdL G md ma mb mc mt m1 m2 m3 m4 m5 m6 m7 th w h cnt most rch tl nc M Y C T CA CB CN CG CS Z K) H := hP
    have hD : va_D A (mdL G md ma mb mc mt m1 m2 m3 m4 m5 m6 m7 th w h cnt most rch tl nc M Y C T CA CB CN CG CS Z K) := hD
    obtain ⟨cd, ecd⟩ : ∃ z : Int, z = cInk a1 a2 a3 a4 cnt := ⟨_, rfl⟩
    refine z_top cd ecd.symm ?_
    have hcd : 0 ≤ cd ∧ cd ≤ 2 := by rw [ecd]; unfold cInk; (repeat' split) <;> omega
    have hcz : cd = 0 → cnt < 8 := fun h9 => by rw [ecd] at h9; revert h9; unfold cInk; (repeat' split) <;> omega
    refine pf_X5_62 (ws' := mdL G md ma mb mc mt m1 m2 m3 m4 m5 m6 m7 cd w h cnt most rch tl nc M Y C T CA CB CN CG CS Z K) hx hb hT hown hK hP hD hS 0 rfl (Nat.le_of_ble_eq_true rfl) rfl rfl rfl dX5_ink_48 (fun H locs hP hD hS => ?_)
    refine lv_aload_n hx hb dX5_ink_51 rfl (lv_at hl 0 rfl) ?_
    refine gf_X5_62 hx hb hT hown hK hP 0 rfl rfl dX5_ink_52 ?_
    refine z_if_le (tgt := 60) hx hb dX5_ink_55 (by decide) (by omega) (fun h55 => ?_) (fun h55 => ?_)
    · skip
      have hc8 := hcz (by omega)
      have hmc := Int.mul_comm 4 cnt
      refine lv_aload_n hx hb dX5_ink_60 rfl (lv_at hl 0 rfl) ?_
      refine gf_X5_13 hx hb hT hown hK hP 0 rfl rfl dX5_ink_61 ?_
      refine z_iconst hx hb dX5_ink_64 ?_
      refine lv_aload_n hx hb dX5_ink_65 rfl (lv_at hl 0 rfl) ?_
      refine gf_X5_7 hx hb hT hown hK hP 0 rfl rfl dX5_ink_66 ?_
      refine z_imul hx hb dX5_ink_69 ?_
      refine lv_iload_n hx hb dX5_ink_70 rfl (lv_at hl 1 rfl) ?_
      refine z_iast (ws' := mdL G md ma mb mc mt m1 m2 m3 m4 m5 m6 m7 cd w h cnt most rch tl nc (zu M (4 * cnt) a1) Y C T CA CB CN CG CS Z K) hx hb hK hP hD hS 1 rfl (⟨by omega, by omega, by omega⟩) dX5_ink_71 rfl (fun H locs hP hD hS => ?_)
      rw [show (zu M (4 * cnt) a1) = (zu M (cnt * 4) a1) from by rw [Int.mul_comm]] at hP hD
      refine lv_aload_n hx hb dX5_ink_72 rfl (lv_at hl 0 rfl) ?_
      refine gf_X5_13 hx hb hT hown hK hP 0 rfl rfl dX5_ink_73 ?_
      refine z_iconst hx hb dX5_ink_76 ?_
      refine lv_aload_n hx hb dX5_ink_77 rfl (lv_at hl 0 rfl) ?_
      refine gf_X5_7 hx hb hT hown hK hP 0 rfl rfl dX5_ink_78 ?_
      refine z_imul hx hb dX5_ink_81 ?_
      refine z_iconst hx hb dX5_ink_82 ?_
      refine z_iadd hx hb dX5_ink_83 ?_
      refine lv_iload_n hx hb dX5_ink_84 rfl (lv_at hl 2 rfl) ?_
      refine z_iast (ws' := mdL G md ma mb mc mt m1 m2 m3 m4 m5 m6 m7 cd w h cnt most rch tl nc (zu (zu M (cnt * 4) a1) ((4 * cnt) + 1) a2) Y C T CA CB CN CG CS Z K) hx hb hK hP hD hS 1 rfl (⟨by omega, by omega, by omega⟩) dX5_ink_85 rfl (fun H locs hP hD hS => ?_)
      rw [show (zu (zu M (cnt * 4) a1) ((4 * cnt) + 1) a2) = (zu (zu M (cnt * 4) a1) (cnt * 4 + 1) a2) from by rw [Int.mul_comm 4 cnt]] at hP hD
      refine lv_aload_n hx hb dX5_ink_86 rfl (lv_at hl 0 rfl) ?_
      refine gf_X5_13 hx hb hT hown hK hP 0 rfl rfl dX5_ink_87 ?_
      refine z_iconst hx hb dX5_ink_90 ?_
      refine lv_aload_n hx hb dX5_ink_91 rfl (lv_at hl 0 rfl) ?_
      refine gf_X5_7 hx hb hT hown hK hP 0 rfl rfl dX5_ink_92 ?_
      refine z_imul hx hb dX5_ink_95 ?_
      refine z_iconst hx hb dX5_ink_96 ?_
      refine z_iadd hx hb dX5_ink_97 ?_
      refine lv_iload_n hx hb dX5_ink_98 rfl (lv_at hl 3 rfl) ?_
      refine z_iast (ws' := mdL G md ma mb mc mt m1 m2 m3 m4 m5 m6 m7 cd w h cnt most rch tl nc (zu (zu (zu M (cnt * 4) a1) (cnt * 4 + 1) a2) ((4 * cnt) + 2) a3) Y C T CA CB CN CG CS Z K) hx hb hK hP hD hS 1 rfl (⟨by omega, by omega, by omega⟩) dX5_ink_99 rfl (fun H locs hP hD hS => ?_)
      rw [show (zu (zu (zu M (cnt * 4) a1) (cnt * 4 + 1) a2) ((4 * cnt) + 2) a3) = (zu (zu (zu M (cnt * 4) a1) (cnt * 4 + 1) a2) (cnt * 4 + 2) a3) from by rw [Int.mul_comm 4 cnt]] at hP hD
      refine lv_aload_n hx hb dX5_ink_100 rfl (lv_at hl 0 rfl) ?_
      refine gf_X5_13 hx hb hT hown hK hP 0 rfl rfl dX5_ink_101 ?_
      refine z_iconst hx hb dX5_ink_104 ?_
      refine lv_aload_n hx hb dX5_ink_105 rfl (lv_at hl 0 rfl) ?_
      refine gf_X5_7 hx hb hT hown hK hP 0 rfl rfl dX5_ink_106 ?_
      refine z_imul hx hb dX5_ink_109 ?_
      refine z_iconst hx hb dX5_ink_110 ?_
      refine z_iadd hx hb dX5_ink_111 ?_
      refine lv_iload hx hb dX5_ink_112 (lv_at hl 4 rfl) ?_
      refine z_iast (ws' := mdL G md ma mb mc mt m1 m2 m3 m4 m5 m6 m7 cd w h cnt most rch tl nc (zu (zu (zu (zu M (cnt * 4) a1) (cnt * 4 + 1) a2) (cnt * 4 + 2) a3) ((4 * cnt) + 3) a4) Y C T CA CB CN CG CS Z K) hx hb hK hP hD hS 1 rfl (⟨by omega, by omega, by omega⟩) dX5_ink_114 rfl (fun H locs hP hD hS => ?_)
      rw [show (zu (zu (zu (zu M (cnt * 4) a1) (cnt * 4 + 1) a2) (cnt * 4 + 2) a3) ((4 * cnt) + 3) a4) = (zu (zu (zu (zu M (cnt * 4) a1) (cnt * 4 + 1) a2) (cnt * 4 + 2) a3) (cnt * 4 + 3) a4) from by rw [Int.mul_comm 4 cnt]] at hP hD
      refine lv_aload_n hx hb dX5_ink_115 rfl (lv_at hl 0 rfl) ?_
      refine lv_dup hx hb dX5_ink_116 rfl ?_
      refine gf_X5_7 hx hb hT hown hK hP 0 rfl rfl dX5_ink_117 ?_
      refine z_iconst hx hb dX5_ink_120 ?_
      refine z_iadd hx hb dX5_ink_121 ?_
      refine pf_X5_7 (ws' := mdL G md ma mb mc mt m1 m2 m3 m4 m5 m6 m7 cd w h (cnt + 1) most rch tl nc (zu (zu (zu (zu M (cnt * 4) a1) (cnt * 4 + 1) a2) (cnt * 4 + 2) a3) (cnt * 4 + 3) a4) Y C T CA CB CN CG CS Z K) hx hb hT hown hK hP hD hS 0 rfl (Nat.le_of_ble_eq_true rfl) rfl rfl rfl dX5_ink_122 (fun H locs hP hD hS => ?_)
      refine lv_aload_n hx hb dX5_ink_125 rfl (lv_at hl 0 rfl) ?_
      refine gf_X5_7 hx hb hT hown hK hP 0 rfl rfl dX5_ink_126 ?_
      refine z_iconst hx hb dX5_ink_129 ?_
      refine z_isub hx hb dX5_ink_130 ?_
      have hQ : mdL G md ma mb mc mt m1 m2 m3 m4 m5 m6 m7 (cInk a1 a2 a3 a4 cnt) w h (if cInk a1 a2 a3 a4 cnt = 0 then cnt + 1 else cnt) most rch tl nc (if cInk a1 a2 a3 a4 cnt = 0 then (zu (zu (zu (zu M (cnt * 4) a1) (cnt * 4 + 1) a2) (cnt * 4 + 2) a3) (cnt * 4 + 3) a4) else M) Y C T CA CB CN CG CS Z K = mdL G md ma mb mc mt m1 m2 m3 m4 m5 m6 m7 cd w h (cnt + 1) most rch tl nc (zu (zu (zu (zu M (cnt * 4) a1) (cnt * 4 + 1) a2) (cnt * 4 + 2) a3) (cnt * 4 + 3) a4) Y C T CA CB CN CG CS Z K := by rw [← ecd] <;> (by_cases hc0 : cd = 0) <;> first | (exfalso; omega) | (simp only [if_pos hc0]; done) | (simp only [if_neg hc0]; done) | rfl
      exact z_wri () hx hb hr hlocks hK (by rw [hQ]; exact hP) (by rw [hQ]; exact hD) hS (trivial) (by rw [← ecd, if_pos (by omega)]; omega) dX5_ink_131
    · skip
      refine z_iconst hx hb dX5_ink_58 ?_
      have hQ : mdL G md ma mb mc mt m1 m2 m3 m4 m5 m6 m7 (cInk a1 a2 a3 a4 cnt) w h (if cInk a1 a2 a3 a4 cnt = 0 then cnt + 1 else cnt) most rch tl nc (if cInk a1 a2 a3 a4 cnt = 0 then (zu (zu (zu (zu M (cnt * 4) a1) (cnt * 4 + 1) a2) (cnt * 4 + 2) a3) (cnt * 4 + 3) a4) else M) Y C T CA CB CN CG CS Z K = mdL G md ma mb mc mt m1 m2 m3 m4 m5 m6 m7 cd w h cnt most rch tl nc M Y C T CA CB CN CG CS Z K := by rw [← ecd] <;> (by_cases hc0 : cd = 0) <;> first | (exfalso; omega) | (simp only [if_pos hc0]; done) | (simp only [if_neg hc0]; done) | rfl
      exact z_wri () hx hb hr hlocks hK (by rw [hQ]; exact hP) (by rw [hQ]; exact hD) hS (trivial) (by rw [← ecd] <;> (by_cases hc0 : cd = 0) <;> first | (exfalso; omega) | (rw [if_pos hc0]; done) | (rw [if_neg hc0]; done)) dX5_ink_59
  intro J48
  refine lv_iload_n hx hb dX5_ink_1 rfl (lv_at hl 1 rfl) ?_
  refine z_callS (G := G) (As := [.int (zI (a1))]) (rest := [.ref md]) hx hb hml hown hT hK (c_X5_isByte l G (a1) (by omega)) kc_X5_65 ⟨Nat.le_of_ble_eq_true rfl, Nat.le_of_ble_eq_true rfl⟩ ⟨rfl, rfl⟩ ⟨Nat.le_of_ble_eq_true rfl, Nat.le_of_ble_eq_true rfl⟩ (hP.sub [] rfl) rfl hl.1 rfl (Nat.le_of_ble_eq_true rfl) dX5_ink_2 ?_
  refine z_if_eq (tgt := 30) hx hb dX5_ink_5 (by decide) (bI_rng _) (fun h5 => ?_) (fun h5 => ?_)
  · skip
    have h5 := bI_f.mp h5
    simp only [Bool.and_eq_true, Bool.and_eq_false_iff, Bool.or_eq_true, Bool.or_eq_false_iff, decide_eq_true_eq, decide_eq_false_iff_not] at h5
    refine z_iconst hx hb dX5_ink_30 ?_
    refine z_goto (tgt := 48) hx hb dX5_ink_31 (by decide) ?_
    refine z_top (cInk a1 a2 a3 a4 cnt) (by unfold cInk; (repeat' split) <;> omega) ?_
    exact J48 (ls) _ _ ⟨trivial, lv_sub hl [0, 1, 2, 3, 4] rfl⟩ hP hD hS
  · skip
    have h5 := bI_t.mp h5
    simp only [Bool.and_eq_true, Bool.and_eq_false_iff, Bool.or_eq_true, Bool.or_eq_false_iff, decide_eq_true_eq, decide_eq_false_iff_not] at h5
    refine lv_iload_n hx hb dX5_ink_8 rfl (lv_at hl 2 rfl) ?_
    refine z_callS (G := G) (As := [.int (zI (a2))]) (rest := [.ref md]) hx hb hml hown hT hK (c_X5_isByte l G (a2) (by omega)) kc_X5_65 ⟨Nat.le_of_ble_eq_true rfl, Nat.le_of_ble_eq_true rfl⟩ ⟨rfl, rfl⟩ ⟨Nat.le_of_ble_eq_true rfl, Nat.le_of_ble_eq_true rfl⟩ (hP.sub [] rfl) rfl hl.1 rfl (Nat.le_of_ble_eq_true rfl) dX5_ink_9 ?_
    refine z_if_eq (tgt := 30) hx hb dX5_ink_12 (by decide) (bI_rng _) (fun h12 => ?_) (fun h12 => ?_)
    · skip
      have h12 := bI_f.mp h12
      simp only [Bool.and_eq_true, Bool.and_eq_false_iff, Bool.or_eq_true, Bool.or_eq_false_iff, decide_eq_true_eq, decide_eq_false_iff_not] at h12
      refine z_iconst hx hb dX5_ink_30 ?_
      refine z_goto (tgt := 48) hx hb dX5_ink_31 (by decide) ?_
      refine z_top (cInk a1 a2 a3 a4 cnt) (by unfold cInk; (repeat' split) <;> omega) ?_
      exact J48 (ls) _ _ ⟨trivial, lv_sub hl [0, 1, 2, 3, 4] rfl⟩ hP hD hS
    · skip
      have h12 := bI_t.mp h12
      simp only [Bool.and_eq_true, Bool.and_eq_false_iff, Bool.or_eq_true, Bool.or_eq_false_iff, decide_eq_true_eq, decide_eq_false_iff_not] at h12
      refine lv_iload_n hx hb dX5_ink_15 rfl (lv_at hl 3 rfl) ?_
      refine z_callS (G := G) (As := [.int (zI (a3))]) (rest := [.ref md]) hx hb hml hown hT hK (c_X5_isByte l G (a3) (by omega)) kc_X5_65 ⟨Nat.le_of_ble_eq_true rfl, Nat.le_of_ble_eq_true rfl⟩ ⟨rfl, rfl⟩ ⟨Nat.le_of_ble_eq_true rfl, Nat.le_of_ble_eq_true rfl⟩ (hP.sub [] rfl) rfl hl.1 rfl (Nat.le_of_ble_eq_true rfl) dX5_ink_16 ?_
      refine z_if_eq (tgt := 30) hx hb dX5_ink_19 (by decide) (bI_rng _) (fun h19 => ?_) (fun h19 => ?_)
      · skip
        have h19 := bI_f.mp h19
        simp only [Bool.and_eq_true, Bool.and_eq_false_iff, Bool.or_eq_true, Bool.or_eq_false_iff, decide_eq_true_eq, decide_eq_false_iff_not] at h19
        refine z_iconst hx hb dX5_ink_30 ?_
        refine z_goto (tgt := 48) hx hb dX5_ink_31 (by decide) ?_
        refine z_top (cInk a1 a2 a3 a4 cnt) (by unfold cInk; (repeat' split) <;> omega) ?_
        exact J48 (ls) _ _ ⟨trivial, lv_sub hl [0, 1, 2, 3, 4] rfl⟩ hP hD hS
      · skip
        have h19 := bI_t.mp h19
        simp only [Bool.and_eq_true, Bool.and_eq_false_iff, Bool.or_eq_true, Bool.or_eq_false_iff, decide_eq_true_eq, decide_eq_false_iff_not] at h19
        refine lv_iload hx hb dX5_ink_22 (lv_at hl 4 rfl) ?_
        refine z_callS (G := G) (As := [.int (zI (a4))]) (rest := [.ref md]) hx hb hml hown hT hK (c_X5_isByte l G (a4) (by omega)) kc_X5_65 ⟨Nat.le_of_ble_eq_true rfl, Nat.le_of_ble_eq_true rfl⟩ ⟨rfl, rfl⟩ ⟨Nat.le_of_ble_eq_true rfl, Nat.le_of_ble_eq_true rfl⟩ (hP.sub [] rfl) rfl hl.1 rfl (Nat.le_of_ble_eq_true rfl) dX5_ink_24 ?_
        refine z_if_ne (tgt := 34) hx hb dX5_ink_27 (by decide) (bI_rng _) (fun h27 => ?_) (fun h27 => ?_)
        · skip
          have h27 := bI_t.mp h27
          simp only [Bool.and_eq_true, Bool.and_eq_false_iff, Bool.or_eq_true, Bool.or_eq_false_iff, decide_eq_true_eq, decide_eq_false_iff_not] at h27
          refine lv_aload_n hx hb dX5_ink_34 rfl (lv_at hl 0 rfl) ?_
          refine gf_X5_7 hx hb hT hown hK hP 0 rfl rfl dX5_ink_35 ?_
          refine z_bipush hx hb dX5_ink_38 (by decide +kernel) ?_
          refine z_icmp_ne (tgt := 47) hx hb dX5_ink_40 (by decide) (by omega) (by omega) (fun h40 => ?_) (fun h40 => ?_)
          · skip
            refine z_iconst hx hb dX5_ink_47 ?_
            refine z_top (cInk a1 a2 a3 a4 cnt) (by unfold cInk; (repeat' split) <;> omega) ?_
            exact J48 (ls) _ _ ⟨trivial, lv_sub hl [0, 1, 2, 3, 4] rfl⟩ hP hD hS
          · skip
            refine z_iconst hx hb dX5_ink_43 ?_
            refine z_goto (tgt := 48) hx hb dX5_ink_44 (by decide) ?_
            refine z_top (cInk a1 a2 a3 a4 cnt) (by unfold cInk; (repeat' split) <;> omega) ?_
            exact J48 (ls) _ _ ⟨trivial, lv_sub hl [0, 1, 2, 3, 4] rfl⟩ hP hD hS
        · skip
          have h27 := bI_f.mp h27
          simp only [Bool.and_eq_true, Bool.and_eq_false_iff, Bool.or_eq_true, Bool.or_eq_false_iff, decide_eq_true_eq, decide_eq_false_iff_not] at h27
          refine z_iconst hx hb dX5_ink_30 ?_
          refine z_goto (tgt := 48) hx hb dX5_ink_31 (by decide) ?_
          refine z_top (cInk a1 a2 a3 a4 cnt) (by unfold cInk; (repeat' split) <;> omega) ?_
          exact J48 (ls) _ _ ⟨trivial, lv_sub hl [0, 1, 2, 3, 4] rfl⟩ hP hD hS

set_option maxHeartbeats 4000000 in
set_option maxRecDepth 100000 in
theorem c_X5_colour (l : Launch) (G : zG) (md ma mb mc mt m1 m2 m3 m4 m5 m6 m7 : Nat) (th w h cnt most rch tl nc : Int) (M Y C T CA CB CN CG CS Z K : Int → Int) (k v : Int) (hm : mdOK w h cnt most rch tl nc M Y C T CN CG CS K) (hk : -2147483648 ≤ k ∧ k ≤ 2147483647) (hv : -2147483648 ≤ v ∧ v ≤ 2147483647) : zWv l yX5_colour cX5_colour 3 { frames := 1, cells := 0, slots := 0, locals := 21 } G [.ref md, .int (zI (k)), .int (zI (v))] (mdL G md ma mb mc mt m1 m2 m3 m4 m5 m6 m7 th w h cnt most rch tl nc M Y C T CA CB CN CG CS Z K) (S := Unit) (fun u => True) (fun u => mdL G md ma mb mc mt m1 m2 m3 m4 m5 m6 m7 (cCol k v cnt) w h cnt most rch tl nc M Y (if cCol k v cnt = 0 then zu C k v else C) T CA CB CN CG CS Z K) := by
  intro sz
  refine Met.ofW (cc := cX5_colour) (maxL := 3) (ret := none) (by decide) rfl ?_
  intro p e s m args below meth c s₁ B hml hv
  obtain ⟨rfl, hsz, hP, hK, hD0⟩ := hv
  have hx := B.exec
  have hb := B.bytes
  have hr := B.returns
  have hT : ∀ w ∈ TB, w.before _ s = true := fun w h => atoms_spec (ws := Cond.code yX5_colour cX5_colour 3 none :: TB) B.pre w (List.mem_cons_of_mem _ h)
  have hown : s.vm.findClass RX5 = some m.cls := findClass_of_methodNamed B.named
  have hlocks := B.notSynchronized
  subst hsz
  have hD := hD0.self (sz := s.heap.size)
  generalize hAe : va_A (mdL G md ma mb mc mt m1 m2 m3 m4 m5 m6 m7 th w h cnt most rch tl nc M Y C T CA CB CN CG CS Z K) s.heap.size = A at hD ⊢
  have hA : ∀ q : Nat, s.heap.size ≤ q → A q := fun q h => by rw [← hAe]; exact Or.inr h
  have hS : va_S A s.heap s.heap [] := va_S.rf
  have hP : zP G (mdL G md ma mb mc mt m1 m2 m3 m4 m5 m6 m7 th w h cnt most rch tl nc M Y C T CA CB CN CG CS Z K) s.heap := hP
  have hD : va_D A (mdL G md ma mb mc mt m1 m2 m3 m4 m5 m6 m7 th w h cnt most rch tl nc M Y C T CA CB CN CG CS Z K) := hD
  have hl := lv_entry ([.ref md, .int (zI (k)), .int (zI (v))]) (n := 3) (Nat.le_of_ble_eq_true rfl)
  rw [lg_entry_eq]
  generalize (lg_sl ([.ref md, .int (zI (k)), .int (zI (v))]) ++ List.replicate (3 - (lg_sl ([.ref md, .int (zI (k)), .int (zI (v))])).length) Slot.unset).toArray = ls at hl ⊢
  have hl : lv_has ls 3 [(0, .ref md), (1, .int (zI (k))), (2, .int (zI (v)))] := hl
  obtain ⟨hw, hh, hcnt, hmost, hrch, hM, hY, hC, hTb, hT0, hT5, htl, hnc, hcl, hKb⟩ := id hm
  have hpt := md_pts hm
  have hPb : ∀ j, 0 ≤ PPf Y w (w * h) j ∧ PPf Y w (w * h) j ≤ 255 := fun j => hY _
  refine lv_aload_n hx hb dX5_colour_0 rfl (lv_at hl 0 rfl) ?_
  refine z_cutH (A := A) (H0 := s.heap) (G := G) (σ := Array Slot) (fun zq => F0 m 30 (zq) [.int (zI (cCol k v cnt)), .ref md]) (fun zq => (True) ∧ lv_has (zq) 3 [(0, .ref md), (1, .int (zI (k))), (2, .int (zI (v)))]) (fun zq => mdL G md ma mb mc mt m1 m2 m3 m4 m5 m6 m7 th w h cnt most rch tl nc M Y C T CA CB CN CG CS Z K) ?_ ?_
  · intro ls H locs hq hP hD hS
    obtain ⟨hJ, hl⟩ := hq
    try dsimp only at hJ hl hP hD ⊢
    have hP : zP G (mdL G md ma mb mc mt m1 m2 m3 m4 m5 m6 m7 th w h cnt most rch tl nc M Y C T CA CB CN CG CS Z K) H := hP
    have hD : va_D A (mdL G md ma mb mc mt m1 m2 m3 m4 m5 m6 m7 th w h cnt most rch tl nc M Y C T CA CB CN CG CS Z K) := hD
    obtain ⟨cd, ecd⟩ : ∃ z : Int, z = cCol k v cnt := ⟨_, rfl⟩
    refine z_top cd ecd.symm ?_
    have hcd : 0 ≤ cd ∧ cd ≤ 2 := by rw [ecd]; unfold cCol; (repeat' split) <;> omega
    have hcz : cd = 0 → 0 ≤ k ∧ k < cnt := fun h9 => by rw [ecd] at h9; revert h9; unfold cCol; (repeat' split) <;> omega
    refine pf_X5_62 (ws' := mdL G md ma mb mc mt m1 m2 m3 m4 m5 m6 m7 cd w h cnt most rch tl nc M Y C T CA CB CN CG CS Z K) hx hb hT hown hK hP hD hS 0 rfl (Nat.le_of_ble_eq_true rfl) rfl rfl rfl dX5_colour_30 (fun H locs hP hD hS => ?_)
    refine lv_aload_n hx hb dX5_colour_33 rfl (lv_at hl 0 rfl) ?_
    refine gf_X5_62 hx hb hT hown hK hP 0 rfl rfl dX5_colour_34 ?_
    refine z_if_ne (tgt := 47) hx hb dX5_colour_37 (by decide) (by omega) (fun h37 => ?_) (fun h37 => ?_)
    · skip
      have hQ : mdL G md ma mb mc mt m1 m2 m3 m4 m5 m6 m7 (cCol k v cnt) w h cnt most rch tl nc M Y (if cCol k v cnt = 0 then zu C k v else C) T CA CB CN CG CS Z K = mdL G md ma mb mc mt m1 m2 m3 m4 m5 m6 m7 cd w h cnt most rch tl nc M Y C T CA CB CN CG CS Z K := by rw [← ecd] <;> (by_cases hc0 : cd = 0) <;> first | (exfalso; omega) | (simp only [if_pos hc0]; done) | (simp only [if_neg hc0]; done) | rfl
      exact z_wrv () hx hb hr hlocks hK (by rw [hQ]; exact hP) (by rw [hQ]; exact hD) hS (trivial) dX5_colour_47
    · skip
      have hk8 := hcz (by omega)
      refine lv_aload_n hx hb dX5_colour_40 rfl (lv_at hl 0 rfl) ?_
      refine gf_X5_20 hx hb hT hown hK hP 0 rfl rfl dX5_colour_41 ?_
      refine lv_iload_n hx hb dX5_colour_44 rfl (lv_at hl 1 rfl) ?_
      refine lv_iload_n hx hb dX5_colour_45 rfl (lv_at hl 2 rfl) ?_
      refine z_iast (ws' := mdL G md ma mb mc mt m1 m2 m3 m4 m5 m6 m7 cd w h cnt most rch tl nc M Y (zu C k v) T CA CB CN CG CS Z K) hx hb hK hP hD hS 3 rfl (⟨by omega, by omega, by omega⟩) dX5_colour_46 rfl (fun H locs hP hD hS => ?_)
      have hQ : mdL G md ma mb mc mt m1 m2 m3 m4 m5 m6 m7 (cCol k v cnt) w h cnt most rch tl nc M Y (if cCol k v cnt = 0 then zu C k v else C) T CA CB CN CG CS Z K = mdL G md ma mb mc mt m1 m2 m3 m4 m5 m6 m7 cd w h cnt most rch tl nc M Y (zu C k v) T CA CB CN CG CS Z K := by rw [← ecd] <;> (by_cases hc0 : cd = 0) <;> first | (exfalso; omega) | (simp only [if_pos hc0]; done) | (simp only [if_neg hc0]; done) | rfl
      exact z_wrv () hx hb hr hlocks hK (by rw [hQ]; exact hP) (by rw [hQ]; exact hD) hS (trivial) dX5_colour_47
  intro J30
  refine lv_iload_n hx hb dX5_colour_1 rfl (lv_at hl 2 rfl) ?_
  refine z_iconst hx hb dX5_colour_2 ?_
  refine z_icmp_lt (tgt := 13) hx hb dX5_colour_3 (by decide) (by omega) (by omega) (fun h3 => ?_) (fun h3 => ?_)
  · skip
    refine z_iconst hx hb dX5_colour_13 ?_
    refine z_goto (tgt := 30) hx hb dX5_colour_14 (by decide) ?_
    refine z_top (cCol k v cnt) (by unfold cCol; (repeat' split) <;> omega) ?_
    exact J30 (ls) _ _ ⟨trivial, lv_sub hl [0, 1, 2] rfl⟩ hP hD hS
  · skip
    refine lv_iload_n hx hb dX5_colour_6 rfl (lv_at hl 2 rfl) ?_
    refine z_sipush hx hb dX5_colour_7 (by decide +kernel) ?_
    refine z_icmp_le (tgt := 17) hx hb dX5_colour_10 (by decide) (by omega) (by omega) (fun h10 => ?_) (fun h10 => ?_)
    · skip
      refine lv_aload_n hx hb dX5_colour_17 rfl (lv_at hl 0 rfl) ?_
      refine lv_iload_n hx hb dX5_colour_18 rfl (lv_at hl 1 rfl) ?_
      refine z_callV (q0 := 0) (G := G) (As := [.int (zI (k))]) (rest := [.ref md]) hx hb hml hown hT hK (c_X5_isInk l G md ma mb mc mt m1 m2 m3 m4 m5 m6 m7 th w h cnt most rch tl nc M Y C T CA CB CN CG CS Z K (k) hm (by omega)) kc_X5_69 ⟨Nat.le_of_ble_eq_true rfl, Nat.le_of_ble_eq_true rfl⟩ ⟨rfl, rfl⟩ ⟨Nat.le_of_ble_eq_true rfl, Nat.le_of_ble_eq_true rfl⟩ hP rfl rfl rfl rfl hl.1 rfl (Nat.le_of_ble_eq_true rfl) dX5_colour_19 ?_
      refine z_if_ne (tgt := 29) hx hb dX5_colour_22 (by decide) (bI_rng _) (fun h22 => ?_) (fun h22 => ?_)
      · skip
        have h22 := bI_t.mp h22
        simp only [Bool.and_eq_true, Bool.and_eq_false_iff, Bool.or_eq_true, Bool.or_eq_false_iff, decide_eq_true_eq, decide_eq_false_iff_not] at h22
        refine z_iconst hx hb dX5_colour_29 ?_
        refine z_top (cCol k v cnt) (by unfold cCol; (repeat' split) <;> omega) ?_
        exact J30 (ls) _ _ ⟨trivial, lv_sub hl [0, 1, 2] rfl⟩ hP hD hS
      · skip
        have h22 := bI_f.mp h22
        simp only [Bool.and_eq_true, Bool.and_eq_false_iff, Bool.or_eq_true, Bool.or_eq_false_iff, decide_eq_true_eq, decide_eq_false_iff_not] at h22
        refine z_iconst hx hb dX5_colour_25 ?_
        refine z_goto (tgt := 30) hx hb dX5_colour_26 (by decide) ?_
        refine z_top (cCol k v cnt) (by unfold cCol; (repeat' split) <;> omega) ?_
        exact J30 (ls) _ _ ⟨trivial, lv_sub hl [0, 1, 2] rfl⟩ hP hD hS
    · skip
      refine z_iconst hx hb dX5_colour_13 ?_
      refine z_goto (tgt := 30) hx hb dX5_colour_14 (by decide) ?_
      refine z_top (cCol k v cnt) (by unfold cCol; (repeat' split) <;> omega) ?_
      exact J30 (ls) _ _ ⟨trivial, lv_sub hl [0, 1, 2] rfl⟩ hP hD hS

set_option maxHeartbeats 4000000 in
set_option maxRecDepth 100000 in
theorem c_X5_limit (l : Launch) (G : zG) (md ma mb mc mt m1 m2 m3 m4 m5 m6 m7 : Nat) (th w h cnt most rch tl nc : Int) (M Y C T CA CB CN CG CS Z K : Int → Int) (v : Int) (hm : mdOK w h cnt most rch tl nc M Y C T CN CG CS K) (hv : -2147483648 ≤ v ∧ v ≤ 2147483647) : zWi l yX5_limit cX5_limit 3 (some .int) { frames := 0, cells := 0, slots := 0, locals := 0 } G [.ref md, .int (zI (v))] (mdL G md ma mb mc mt m1 m2 m3 m4 m5 m6 m7 th w h cnt most rch tl nc M Y C T CA CB CN CG CS Z K) (S := Unit) (fun u => if cLim v = 0 then most else 0) (fun u => True) (fun u => mdL G md ma mb mc mt m1 m2 m3 m4 m5 m6 m7 (cLim v) w h cnt (if cLim v = 0 then v else most) rch tl nc M Y C T CA CB CN CG CS Z K) := by
  intro sz
  refine Met.ofW (cc := cX5_limit) (maxL := 3) (ret := (some .int)) (by decide) rfl ?_
  intro p e s m args below meth c s₁ B hml hv
  obtain ⟨rfl, hsz, hP, hK, hD0⟩ := hv
  have hx := B.exec
  have hb := B.bytes
  have hr := B.returns
  have hT : ∀ w ∈ TB, w.before _ s = true := fun w h => atoms_spec (ws := Cond.code yX5_limit cX5_limit 3 (some .int) :: TB) B.pre w (List.mem_cons_of_mem _ h)
  have hown : s.vm.findClass RX5 = some m.cls := findClass_of_methodNamed B.named
  have hlocks := B.notSynchronized
  subst hsz
  have hD := hD0.self (sz := s.heap.size)
  generalize hAe : va_A (mdL G md ma mb mc mt m1 m2 m3 m4 m5 m6 m7 th w h cnt most rch tl nc M Y C T CA CB CN CG CS Z K) s.heap.size = A at hD ⊢
  have hA : ∀ q : Nat, s.heap.size ≤ q → A q := fun q h => by rw [← hAe]; exact Or.inr h
  have hS : va_S A s.heap s.heap [] := va_S.rf
  have hP : zP G (mdL G md ma mb mc mt m1 m2 m3 m4 m5 m6 m7 th w h cnt most rch tl nc M Y C T CA CB CN CG CS Z K) s.heap := hP
  have hD : va_D A (mdL G md ma mb mc mt m1 m2 m3 m4 m5 m6 m7 th w h cnt most rch tl nc M Y C T CA CB CN CG CS Z K) := hD
  have hl := lv_entry ([.ref md, .int (zI (v))]) (n := 3) (Nat.le_of_ble_eq_true rfl)
  rw [lg_entry_eq]
  generalize (lg_sl ([.ref md, .int (zI (v))]) ++ List.replicate (3 - (lg_sl ([.ref md, .int (zI (v))])).length) Slot.unset).toArray = ls at hl ⊢
  have hl : lv_has ls 3 [(0, .ref md), (1, .int (zI (v)))] := hl
  obtain ⟨hw, hh, hcnt, hmost, hrch, hM, hY, hC, hTb, hT0, hT5, htl, hnc, hcl, hKb⟩ := id hm
  have hpt := md_pts hm
  have hPb : ∀ j, 0 ≤ PPf Y w (w * h) j ∧ PPf Y w (w * h) j ≤ 255 := fun j => hY _
  refine lv_aload_n hx hb dX5_limit_0 rfl (lv_at hl 0 rfl) ?_
  refine z_cutH (A := A) (H0 := s.heap) (G := G) (σ := Array Slot) (fun zq => F0 m 17 (zq) [.int (zI (cLim v)), .ref md]) (fun zq => (True) ∧ lv_has (zq) 3 [(0, .ref md), (1, .int (zI (v)))]) (fun zq => mdL G md ma mb mc mt m1 m2 m3 m4 m5 m6 m7 th w h cnt most rch tl nc M Y C T CA CB CN CG CS Z K) ?_ ?_
  · intro ls H locs hq hP hD hS
    obtain ⟨hJ, hl⟩ := hq
    try dsimp only at hJ hl hP hD ⊢
    have hP : zP G (mdL G md ma mb mc mt m1 m2 m3 m4 m5 m6 m7 th w h cnt most rch tl nc M Y C T CA CB CN CG CS Z K) H := hP
    have hD : va_D A (mdL G md ma mb mc mt m1 m2 m3 m4 m5 m6 m7 th w h cnt most rch tl nc M Y C T CA CB CN CG CS Z K) := hD
    obtain ⟨cd, ecd⟩ : ∃ z : Int, z = cLim v := ⟨_, rfl⟩
    refine z_top cd ecd.symm ?_
    have hcd : 0 ≤ cd ∧ cd ≤ 1 := by rw [ecd]; unfold cLim; (repeat' split) <;> omega
    refine pf_X5_62 (ws' := mdL G md ma mb mc mt m1 m2 m3 m4 m5 m6 m7 cd w h cnt most rch tl nc M Y C T CA CB CN CG CS Z K) hx hb hT hown hK hP hD hS 0 rfl (Nat.le_of_ble_eq_true rfl) rfl rfl rfl dX5_limit_17 (fun H locs hP hD hS => ?_)
    refine lv_aload_n hx hb dX5_limit_20 rfl (lv_at hl 0 rfl) ?_
    refine gf_X5_23 hx hb hT hown hK hP 0 rfl rfl dX5_limit_21 ?_
    refine lv_istore_n (lv' := [(2, .int (zI (most))), (0, .ref md), (1, .int (zI (v)))]) hx hb dX5_limit_24 rfl hl (by decide) rfl (fun ls hl => ?_)
    refine z_cutH (A := A) (H0 := s.heap) (G := G) (σ := Array Slot) (fun zq => F0 m 41 (zq) [.int (zI ((if cLim v = 0 then v else most))), .ref md]) (fun zq => (True) ∧ lv_has (zq) 3 [(2, .int (zI (most))), (0, .ref md), (1, .int (zI (v)))]) (fun zq => mdL G md ma mb mc mt m1 m2 m3 m4 m5 m6 m7 cd w h cnt most rch tl nc M Y C T CA CB CN CG CS Z K) ?_ ?_
    · intro ls H locs hq hP hD hS
      obtain ⟨hJ, hl⟩ := hq
      try dsimp only at hJ hl hP hD ⊢
      have hP : zP G (mdL G md ma mb mc mt m1 m2 m3 m4 m5 m6 m7 cd w h cnt most rch tl nc M Y C T CA CB CN CG CS Z K) H := hP
      have hD : va_D A (mdL G md ma mb mc mt m1 m2 m3 m4 m5 m6 m7 cd w h cnt most rch tl nc M Y C T CA CB CN CG CS Z K) := hD
      refine pf_X5_23 (ws' := mdL G md ma mb mc mt m1 m2 m3 m4 m5 m6 m7 cd w h cnt (if cLim v = 0 then v else most) rch tl nc M Y C T CA CB CN CG CS Z K) hx hb hT hown hK hP hD hS 0 rfl (Nat.le_of_ble_eq_true rfl) rfl rfl rfl dX5_limit_41 (fun H locs hP hD hS => ?_)
      refine lv_aload_n hx hb dX5_limit_44 rfl (lv_at hl 1 rfl) ?_
      refine gf_X5_62 hx hb hT hown hK hP 0 rfl rfl dX5_limit_45 ?_
      refine z_if_le (tgt := 55) hx hb dX5_limit_48 (by decide) (by omega) (fun h48 => ?_) (fun h48 => ?_)
      · skip
        refine lv_iload_n hx hb dX5_limit_55 rfl (lv_at hl 0 rfl) ?_
        have hQ : mdL G md ma mb mc mt m1 m2 m3 m4 m5 m6 m7 (cLim v) w h cnt (if cLim v = 0 then v else most) rch tl nc M Y C T CA CB CN CG CS Z K = mdL G md ma mb mc mt m1 m2 m3 m4 m5 m6 m7 cd w h cnt (if cLim v = 0 then v else most) rch tl nc M Y C T CA CB CN CG CS Z K := by rw [← ecd] <;> (by_cases hc0 : cd = 0) <;> first | (exfalso; omega) | (simp only [if_pos hc0]; done) | (simp only [if_neg hc0]; done) | rfl
        exact z_wri () hx hb hr hlocks hK (by rw [hQ]; exact hP) (by rw [hQ]; exact hD) hS (trivial) (by rw [← ecd] <;> (by_cases hc0 : cd = 0) <;> first | (exfalso; omega) | (rw [if_pos hc0]; done) | (rw [if_neg hc0]; done)) dX5_limit_56
      · skip
        refine z_iconst hx hb dX5_limit_51 ?_
        refine z_goto (tgt := 56) hx hb dX5_limit_52 (by decide) ?_
        have hQ : mdL G md ma mb mc mt m1 m2 m3 m4 m5 m6 m7 (cLim v) w h cnt (if cLim v = 0 then v else most) rch tl nc M Y C T CA CB CN CG CS Z K = mdL G md ma mb mc mt m1 m2 m3 m4 m5 m6 m7 cd w h cnt (if cLim v = 0 then v else most) rch tl nc M Y C T CA CB CN CG CS Z K := by rw [← ecd] <;> (by_cases hc0 : cd = 0) <;> first | (exfalso; omega) | (simp only [if_pos hc0]; done) | (simp only [if_neg hc0]; done) | rfl
        exact z_wri () hx hb hr hlocks hK (by rw [hQ]; exact hP) (by rw [hQ]; exact hD) hS (trivial) (by rw [← ecd] <;> (by_cases hc0 : cd = 0) <;> first | (exfalso; omega) | (rw [if_pos hc0]; done) | (rw [if_neg hc0]; done)) dX5_limit_56
    intro J41
    refine lv_aload_n hx hb dX5_limit_25 rfl (lv_at hl 1 rfl) ?_
    refine lv_aload_n hx hb dX5_limit_26 rfl (lv_at hl 1 rfl) ?_
    refine gf_X5_62 hx hb hT hown hK hP 0 rfl rfl dX5_limit_27 ?_
    refine z_if_le (tgt := 40) hx hb dX5_limit_30 (by decide) (by omega) (fun h30 => ?_) (fun h30 => ?_)
    · skip
      refine lv_iload_n hx hb dX5_limit_40 rfl (lv_at hl 2 rfl) ?_
      refine z_top (if cLim v = 0 then v else most) (by rw [← ecd] <;> (by_cases hc0 : cd = 0) <;> first | (exfalso; omega) | (rw [if_pos hc0]; done) | (rw [if_neg hc0]; done)) ?_
      exact J41 (ls) _ _ ⟨trivial, lv_sub hl [0, 1, 2] rfl⟩ hP hD hS
    · skip
      refine lv_aload_n hx hb dX5_limit_33 rfl (lv_at hl 1 rfl) ?_
      refine gf_X5_23 hx hb hT hown hK hP 0 rfl rfl dX5_limit_34 ?_
      refine z_goto (tgt := 41) hx hb dX5_limit_37 (by decide) ?_
      refine z_top (if cLim v = 0 then v else most) (by rw [← ecd] <;> (by_cases hc0 : cd = 0) <;> first | (exfalso; omega) | (rw [if_pos hc0]; done) | (rw [if_neg hc0]; done)) ?_
      exact J41 (ls) _ _ ⟨trivial, lv_sub hl [0, 1, 2] rfl⟩ hP hD hS
  intro J17
  refine lv_iload_n hx hb dX5_limit_1 rfl (lv_at hl 1 rfl) ?_
  refine z_if_lt (tgt := 12) hx hb dX5_limit_2 (by decide) (by omega) (fun h2 => ?_) (fun h2 => ?_)
  · skip
    refine z_iconst hx hb dX5_limit_12 ?_
    refine z_goto (tgt := 17) hx hb dX5_limit_13 (by decide) ?_
    refine z_top (cLim v) (by unfold cLim; (repeat' split) <;> omega) ?_
    exact J17 (ls) _ _ ⟨trivial, lv_sub hl [0, 1] rfl⟩ hP hD hS
  · skip
    refine lv_iload_n hx hb dX5_limit_5 rfl (lv_at hl 1 rfl) ?_
    refine z_sipush hx hb dX5_limit_6 (by decide +kernel) ?_
    refine z_icmp_le (tgt := 16) hx hb dX5_limit_9 (by decide) (by omega) (by omega) (fun h9 => ?_) (fun h9 => ?_)
    · skip
      refine z_iconst hx hb dX5_limit_16 ?_
      refine z_top (cLim v) (by unfold cLim; (repeat' split) <;> omega) ?_
      exact J17 (ls) _ _ ⟨trivial, lv_sub hl [0, 1] rfl⟩ hP hD hS
    · skip
      refine z_iconst hx hb dX5_limit_12 ?_
      refine z_goto (tgt := 17) hx hb dX5_limit_13 (by decide) ?_
      refine z_top (cLim v) (by unfold cLim; (repeat' split) <;> omega) ?_
      exact J17 (ls) _ _ ⟨trivial, lv_sub hl [0, 1] rfl⟩ hP hD hS

set_option maxHeartbeats 4000000 in
set_option maxRecDepth 100000 in
theorem c_X5_width (l : Launch) (G : zG) (md ma mb mc mt m1 m2 m3 m4 m5 m6 m7 : Nat) (th w h cnt most rch tl nc : Int) (M Y C T CA CB CN CG CS Z K : Int → Int) (v : Int) (hm : mdOK w h cnt most rch tl nc M Y C T CN CG CS K) (hv : -2147483648 ≤ v ∧ v ≤ 2147483647) : zWi l yX5_width cX5_width 3 (some .int) { frames := 0, cells := 0, slots := 0, locals := 0 } G [.ref md, .int (zI (v))] (mdL G md ma mb mc mt m1 m2 m3 m4 m5 m6 m7 th w h cnt most rch tl nc M Y C T CA CB CN CG CS Z K) (S := Unit) (fun u => if cWid v = 0 then rch else 0) (fun u => True) (fun u => mdL G md ma mb mc mt m1 m2 m3 m4 m5 m6 m7 (cWid v) w h cnt most (if cWid v = 0 then v else rch) tl nc M Y C T CA CB CN CG CS Z K) := by
  intro sz
  refine Met.ofW (cc := cX5_width) (maxL := 3) (ret := (some .int)) (by decide) rfl ?_
  intro p e s m args below meth c s₁ B hml hv
  obtain ⟨rfl, hsz, hP, hK, hD0⟩ := hv
  have hx := B.exec
  have hb := B.bytes
  have hr := B.returns
  have hT : ∀ w ∈ TB, w.before _ s = true := fun w h => atoms_spec (ws := Cond.code yX5_width cX5_width 3 (some .int) :: TB) B.pre w (List.mem_cons_of_mem _ h)
  have hown : s.vm.findClass RX5 = some m.cls := findClass_of_methodNamed B.named
  have hlocks := B.notSynchronized
  subst hsz
  have hD := hD0.self (sz := s.heap.size)
  generalize hAe : va_A (mdL G md ma mb mc mt m1 m2 m3 m4 m5 m6 m7 th w h cnt most rch tl nc M Y C T CA CB CN CG CS Z K) s.heap.size = A at hD ⊢
  have hA : ∀ q : Nat, s.heap.size ≤ q → A q := fun q h => by rw [← hAe]; exact Or.inr h
  have hS : va_S A s.heap s.heap [] := va_S.rf
  have hP : zP G (mdL G md ma mb mc mt m1 m2 m3 m4 m5 m6 m7 th w h cnt most rch tl nc M Y C T CA CB CN CG CS Z K) s.heap := hP
  have hD : va_D A (mdL G md ma mb mc mt m1 m2 m3 m4 m5 m6 m7 th w h cnt most rch tl nc M Y C T CA CB CN CG CS Z K) := hD
  have hl := lv_entry ([.ref md, .int (zI (v))]) (n := 3) (Nat.le_of_ble_eq_true rfl)
  rw [lg_entry_eq]
  generalize (lg_sl ([.ref md, .int (zI (v))]) ++ List.replicate (3 - (lg_sl ([.ref md, .int (zI (v))])).length) Slot.unset).toArray = ls at hl ⊢
  have hl : lv_has ls 3 [(0, .ref md), (1, .int (zI (v)))] := hl
  obtain ⟨hw, hh, hcnt, hmost, hrch, hM, hY, hC, hTb, hT0, hT5, htl, hnc, hcl, hKb⟩ := id hm
  have hpt := md_pts hm
  have hPb : ∀ j, 0 ≤ PPf Y w (w * h) j ∧ PPf Y w (w * h) j ≤ 255 := fun j => hY _
  refine lv_aload_n hx hb dX5_width_0 rfl (lv_at hl 0 rfl) ?_
  refine z_cutH (A := A) (H0 := s.heap) (G := G) (σ := Array Slot) (fun zq => F0 m 15 (zq) [.int (zI (cWid v)), .ref md]) (fun zq => (True) ∧ lv_has (zq) 3 [(0, .ref md), (1, .int (zI (v)))]) (fun zq => mdL G md ma mb mc mt m1 m2 m3 m4 m5 m6 m7 th w h cnt most rch tl nc M Y C T CA CB CN CG CS Z K) ?_ ?_
  · intro ls H locs hq hP hD hS
    obtain ⟨hJ, hl⟩ := hq
    try dsimp only at hJ hl hP hD ⊢
    have hP : zP G (mdL G md ma mb mc mt m1 m2 m3 m4 m5 m6 m7 th w h cnt most rch tl nc M Y C T CA CB CN CG CS Z K) H := hP
    have hD : va_D A (mdL G md ma mb mc mt m1 m2 m3 m4 m5 m6 m7 th w h cnt most rch tl nc M Y C T CA CB CN CG CS Z K) := hD
    obtain ⟨cd, ecd⟩ : ∃ z : Int, z = cWid v := ⟨_, rfl⟩
    refine z_top cd ecd.symm ?_
    have hcd : 0 ≤ cd ∧ cd ≤ 1 := by rw [ecd]; unfold cWid; (repeat' split) <;> omega
    refine pf_X5_62 (ws' := mdL G md ma mb mc mt m1 m2 m3 m4 m5 m6 m7 cd w h cnt most rch tl nc M Y C T CA CB CN CG CS Z K) hx hb hT hown hK hP hD hS 0 rfl (Nat.le_of_ble_eq_true rfl) rfl rfl rfl dX5_width_15 (fun H locs hP hD hS => ?_)
    refine lv_aload_n hx hb dX5_width_18 rfl (lv_at hl 0 rfl) ?_
    refine gf_X5_26 hx hb hT hown hK hP 0 rfl rfl dX5_width_19 ?_
    refine lv_istore_n (lv' := [(2, .int (zI (rch))), (0, .ref md), (1, .int (zI (v)))]) hx hb dX5_width_22 rfl hl (by decide) rfl (fun ls hl => ?_)
    refine z_cutH (A := A) (H0 := s.heap) (G := G) (σ := Array Slot) (fun zq => F0 m 39 (zq) [.int (zI ((if cWid v = 0 then v else rch))), .ref md]) (fun zq => (True) ∧ lv_has (zq) 3 [(2, .int (zI (rch))), (0, .ref md), (1, .int (zI (v)))]) (fun zq => mdL G md ma mb mc mt m1 m2 m3 m4 m5 m6 m7 cd w h cnt most rch tl nc M Y C T CA CB CN CG CS Z K) ?_ ?_
    · intro ls H locs hq hP hD hS
      obtain ⟨hJ, hl⟩ := hq
      try dsimp only at hJ hl hP hD ⊢
      have hP : zP G (mdL G md ma mb mc mt m1 m2 m3 m4 m5 m6 m7 cd w h cnt most rch tl nc M Y C T CA CB CN CG CS Z K) H := hP
      have hD : va_D A (mdL G md ma mb mc mt m1 m2 m3 m4 m5 m6 m7 cd w h cnt most rch tl nc M Y C T CA CB CN CG CS Z K) := hD
      refine pf_X5_26 (ws' := mdL G md ma mb mc mt m1 m2 m3 m4 m5 m6 m7 cd w h cnt most (if cWid v = 0 then v else rch) tl nc M Y C T CA CB CN CG CS Z K) hx hb hT hown hK hP hD hS 0 rfl (Nat.le_of_ble_eq_true rfl) rfl rfl rfl dX5_width_39 (fun H locs hP hD hS => ?_)
      refine lv_aload_n hx hb dX5_width_42 rfl (lv_at hl 1 rfl) ?_
      refine gf_X5_62 hx hb hT hown hK hP 0 rfl rfl dX5_width_43 ?_
      refine z_if_le (tgt := 53) hx hb dX5_width_46 (by decide) (by omega) (fun h46 => ?_) (fun h46 => ?_)
      · skip
        refine lv_iload_n hx hb dX5_width_53 rfl (lv_at hl 0 rfl) ?_
        have hQ : mdL G md ma mb mc mt m1 m2 m3 m4 m5 m6 m7 (cWid v) w h cnt most (if cWid v = 0 then v else rch) tl nc M Y C T CA CB CN CG CS Z K = mdL G md ma mb mc mt m1 m2 m3 m4 m5 m6 m7 cd w h cnt most (if cWid v = 0 then v else rch) tl nc M Y C T CA CB CN CG CS Z K := by rw [← ecd] <;> (by_cases hc0 : cd = 0) <;> first | (exfalso; omega) | (simp only [if_pos hc0]; done) | (simp only [if_neg hc0]; done) | rfl
        exact z_wri () hx hb hr hlocks hK (by rw [hQ]; exact hP) (by rw [hQ]; exact hD) hS (trivial) (by rw [← ecd] <;> (by_cases hc0 : cd = 0) <;> first | (exfalso; omega) | (rw [if_pos hc0]; done) | (rw [if_neg hc0]; done)) dX5_width_54
      · skip
        refine z_iconst hx hb dX5_width_49 ?_
        refine z_goto (tgt := 54) hx hb dX5_width_50 (by decide) ?_
        have hQ : mdL G md ma mb mc mt m1 m2 m3 m4 m5 m6 m7 (cWid v) w h cnt most (if cWid v = 0 then v else rch) tl nc M Y C T CA CB CN CG CS Z K = mdL G md ma mb mc mt m1 m2 m3 m4 m5 m6 m7 cd w h cnt most (if cWid v = 0 then v else rch) tl nc M Y C T CA CB CN CG CS Z K := by rw [← ecd] <;> (by_cases hc0 : cd = 0) <;> first | (exfalso; omega) | (simp only [if_pos hc0]; done) | (simp only [if_neg hc0]; done) | rfl
        exact z_wri () hx hb hr hlocks hK (by rw [hQ]; exact hP) (by rw [hQ]; exact hD) hS (trivial) (by rw [← ecd] <;> (by_cases hc0 : cd = 0) <;> first | (exfalso; omega) | (rw [if_pos hc0]; done) | (rw [if_neg hc0]; done)) dX5_width_54
    intro J39
    refine lv_aload_n hx hb dX5_width_23 rfl (lv_at hl 1 rfl) ?_
    refine lv_aload_n hx hb dX5_width_24 rfl (lv_at hl 1 rfl) ?_
    refine gf_X5_62 hx hb hT hown hK hP 0 rfl rfl dX5_width_25 ?_
    refine z_if_le (tgt := 38) hx hb dX5_width_28 (by decide) (by omega) (fun h28 => ?_) (fun h28 => ?_)
    · skip
      refine lv_iload_n hx hb dX5_width_38 rfl (lv_at hl 2 rfl) ?_
      refine z_top (if cWid v = 0 then v else rch) (by rw [← ecd] <;> (by_cases hc0 : cd = 0) <;> first | (exfalso; omega) | (rw [if_pos hc0]; done) | (rw [if_neg hc0]; done)) ?_
      exact J39 (ls) _ _ ⟨trivial, lv_sub hl [0, 1, 2] rfl⟩ hP hD hS
    · skip
      refine lv_aload_n hx hb dX5_width_31 rfl (lv_at hl 1 rfl) ?_
      refine gf_X5_26 hx hb hT hown hK hP 0 rfl rfl dX5_width_32 ?_
      refine z_goto (tgt := 39) hx hb dX5_width_35 (by decide) ?_
      refine z_top (if cWid v = 0 then v else rch) (by rw [← ecd] <;> (by_cases hc0 : cd = 0) <;> first | (exfalso; omega) | (rw [if_pos hc0]; done) | (rw [if_neg hc0]; done)) ?_
      exact J39 (ls) _ _ ⟨trivial, lv_sub hl [0, 1, 2] rfl⟩ hP hD hS
  intro J15
  refine lv_iload_n hx hb dX5_width_1 rfl (lv_at hl 1 rfl) ?_
  refine z_if_lt (tgt := 10) hx hb dX5_width_2 (by decide) (by omega) (fun h2 => ?_) (fun h2 => ?_)
  · skip
    refine z_iconst hx hb dX5_width_10 ?_
    refine z_goto (tgt := 15) hx hb dX5_width_11 (by decide) ?_
    refine z_top (cWid v) (by unfold cWid; (repeat' split) <;> omega) ?_
    exact J15 (ls) _ _ ⟨trivial, lv_sub hl [0, 1] rfl⟩ hP hD hS
  · skip
    refine lv_iload_n hx hb dX5_width_5 rfl (lv_at hl 1 rfl) ?_
    refine z_iconst hx hb dX5_width_6 ?_
    refine z_icmp_le (tgt := 14) hx hb dX5_width_7 (by decide) (by omega) (by omega) (fun h7 => ?_) (fun h7 => ?_)
    · skip
      refine z_iconst hx hb dX5_width_14 ?_
      refine z_top (cWid v) (by unfold cWid; (repeat' split) <;> omega) ?_
      exact J15 (ls) _ _ ⟨trivial, lv_sub hl [0, 1] rfl⟩ hP hD hS
    · skip
      refine z_iconst hx hb dX5_width_10 ?_
      refine z_goto (tgt := 15) hx hb dX5_width_11 (by decide) ?_
      refine z_top (cWid v) (by unfold cWid; (repeat' split) <;> omega) ?_
      exact J15 (ls) _ _ ⟨trivial, lv_sub hl [0, 1] rfl⟩ hP hD hS

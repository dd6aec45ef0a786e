def cCel (a b nc : Int) : Int := if a < 0 ∨ 12 < a ∨ b < -12 ∨ 12 < b then 1 else if a = 0 ∧ b = 0 then 2 else if nc = 6 then 3 else 0

set_option maxHeartbeats 4000000 in
set_option maxRecDepth 100000 in
theorem c_X5_cell (l : Launch) (G : zG) (md ma mb mc mt m1 m2 m3 m4 m5 m6 m7 : Nat) (th w h cnt most rch tl nc : Int) (M Y C T CA CB CN CG CS Z K : Int → Int) (a b : Int) (hm : mdOK w h cnt most rch tl nc M Y C T CN CG CS K) (ha : -2147483648 ≤ a ∧ a ≤ 2147483647) (hb : -2147483648 ≤ b ∧ b ≤ 2147483647) : zWi l yX5_cell cX5_cell 9 (some .int) { frames := 2, cells := 0, slots := 0, locals := 49 } G [.ref md, .int (zI (a)), .int (zI (b))] (mdL G md ma mb mc mt m1 m2 m3 m4 m5 m6 m7 th w h cnt most rch tl nc M Y C T CA CB CN CG CS Z K) (S := Int → Int) (fun u => if cCel a b nc = 0 then nc else 0) (fun u => cCel a b nc = 0 → isM (a * a + b * b) (a * a + b * b) (nmV (cdR a b 11) ((a * a + b * b) / (cdR a b 11)) (fiR a b (cdR a b 11) 25)) (full 13) u) (fun u => mdL G md ma mb mc mt m1 m2 m3 m4 m5 m6 m7 (cCel a b nc) w h cnt most rch tl (if cCel a b nc = 0 then nc + 1 else nc) M Y C T (if cCel a b nc = 0 then (zu CA nc a) else CA) (if cCel a b nc = 0 then (zu CB nc b) else CB) (if cCel a b nc = 0 then (zu CN nc (a * a + b * b)) else CN) (if cCel a b nc = 0 then (zu CG nc (cdR a b 11)) else CG) (if cCel a b nc = 0 then (zu CS nc (fiR a b (cdR a b 11) 25)) else CS) (if cCel a b nc = 0 then (ZS Z (300 * nc) (a * a + b * b) u) else Z) (if cCel a b nc = 0 then (ZS K (300 * nc) (a * a + b * b) (rkF u (a * a + b * b))) else K)) := by
  intro sz
  refine Met.ofW (cc := cX5_cell) (maxL := 9) (ret := (some .int)) (by decide) rfl ?_
  intro p e s m args below meth c s₁ B hml hv
  obtain ⟨rfl, hsz, hP, hK, hD0⟩ := hv
  have hx := B.exec
  have hb := B.bytes
  have hr := B.returns
  have hT : ∀ w ∈ TB, w.before _ s = true := fun w h => atoms_spec (ws := Cond.code yX5_cell cX5_cell 9 (some .int) :: TB) B.pre w (List.mem_cons_of_mem _ h)
  have hown : s.vm.findClass RX5 = some m.cls := findClass_of_methodNamed B.named
  have hlocks := B.notSynchronized
  subst hsz
  have hD := hD0.self (sz := s.heap.size)
  generalize hAe : va_A (mdL G md ma mb mc mt m1 m2 m3 m4 m5 m6 m7 th w h cnt most rch tl nc M Y C T CA CB CN CG CS Z K) s.heap.size = A at hD ⊢
  have hA : ∀ q : Nat, s.heap.size ≤ q → A q := fun q h => by rw [← hAe]; exact Or.inr h
  have hS : va_S A s.heap s.heap [] := va_S.rf
  have hP : zP G (mdL G md ma mb mc mt m1 m2 m3 m4 m5 m6 m7 th w h cnt most rch tl nc M Y C T CA CB CN CG CS Z K) s.heap := hP
  have hD : va_D A (mdL G md ma mb mc mt m1 m2 m3 m4 m5 m6 m7 th w h cnt most rch tl nc M Y C T CA CB CN CG CS Z K) := hD
  have hl := lv_entry ([.ref md, .int (zI (a)), .int (zI (b))]) (n := 9) (Nat.le_of_ble_eq_true rfl)
  rw [lg_entry_eq]
  generalize (lg_sl ([.ref md, .int (zI (a)), .int (zI (b))]) ++ List.replicate (9 - (lg_sl ([.ref md, .int (zI (a)), .int (zI (b))])).length) Slot.unset).toArray = ls at hl ⊢
  have hl : lv_has ls 9 [(0, .ref md), (1, .int (zI (a))), (2, .int (zI (b)))] := hl
  obtain ⟨hw, hh, hcnt, hmost, hrch, hM, hY, hC, hTb, hT0, hT5, htl, hnc, hcl, hKb⟩ := id hm
  have hpt := md_pts hm
  have hPb : ∀ j, 0 ≤ PPf Y w (w * h) j ∧ PPf Y w (w * h) j ≤ 255 := fun j => hY _
  refine lv_aload_n hx hb dX5_cell_0 rfl (lv_at hl 0 rfl) ?_
  refine z_cutH (A := A) (H0 := s.heap) (G := G) (σ := Array Slot) (fun zq => F0 m 53 (zq) [.int (zI (cCel a b nc)), .ref md]) (fun zq => (True) ∧ lv_has (zq) 9 [(0, .ref md), (1, .int (zI (a))), (2, .int (zI (b)))]) (fun zq => mdL G md ma mb mc mt m1 m2 m3 m4 m5 m6 m7 th w h cnt most rch tl nc M Y C T CA CB CN CG CS Z K) ?_ ?_
  · intro ls H locs hq hP hD hS
    obtain ⟨hJ, hl⟩ := hq
    try dsimp only at hJ hl hP hD ⊢
    have hP : zP G (mdL G md ma mb mc mt m1 m2 m3 m4 m5 m6 m7 th w h cnt most rch tl nc M Y C T CA CB CN CG CS Z K) H := hP
    have hD : va_D A (mdL G md ma mb mc mt m1 m2 m3 m4 m5 m6 m7 th w h cnt most rch tl nc M Y C T CA CB CN CG CS Z K) := hD
    obtain ⟨cd, ecd⟩ : ∃ z : Int, z = cCel a b nc := ⟨_, rfl⟩
    refine z_top cd ecd.symm ?_
    have hcd : 0 ≤ cd ∧ cd ≤ 3 := by rw [ecd]; unfold cCel; (repeat' split) <;> omega
    have hcz : cd = 0 → (0 ≤ a ∧ a ≤ 12) ∧ (-12 ≤ b ∧ b ≤ 12) ∧ ¬ (a = 0 ∧ b = 0) ∧ nc < 6 := fun h9 => by rw [ecd] at h9; revert h9; unfold cCel; (repeat' split) <;> omega
    refine pf_X5_62 (ws' := mdL G md ma mb mc mt m1 m2 m3 m4 m5 m6 m7 cd w h cnt most rch tl nc M Y C T CA CB CN CG CS Z K) hx hb hT hown hK hP hD hS 0 rfl (Nat.le_of_ble_eq_true rfl) rfl rfl rfl dX5_cell_53 (fun H locs hP hD hS => ?_)
    refine lv_aload_n hx hb dX5_cell_56 rfl (lv_at hl 0 rfl) ?_
    refine gf_X5_62 hx hb hT hown hK hP 0 rfl rfl dX5_cell_57 ?_
    refine z_if_le (tgt := 65) hx hb dX5_cell_60 (by decide) (by omega) (fun h60 => ?_) (fun h60 => ?_)
    · skip
      have hk8 := hcz (by omega)
      obtain ⟨hA9, hB9, hz0, hn6⟩ := hk8
      obtain ⟨hca, hfd, hfb, hfm, hfs, -⟩ := ceF_at hA9 hB9 hz0
      have hss := sq_sum hA9 hB9 hz0
      refine lv_aload_n hx hb dX5_cell_65 rfl (lv_at hl 0 rfl) ?_
      refine gf_X5_119 hx hb hT hown hK hP 0 rfl rfl dX5_cell_66 ?_
      refine lv_istore_n (lv' := [(3, .int (zI (nc))), (0, .ref md), (1, .int (zI (a))), (2, .int (zI (b)))]) hx hb dX5_cell_69 rfl hl (by decide) rfl (fun ls hl => ?_)
      refine lv_aload_n hx hb dX5_cell_70 rfl (lv_at hl 1 rfl) ?_
      refine gf_X5_35 hx hb hT hown hK hP 0 rfl rfl dX5_cell_71 ?_
      refine lv_iload_n hx hb dX5_cell_74 rfl (lv_at hl 0 rfl) ?_
      refine lv_iload_n hx hb dX5_cell_75 rfl (lv_at hl 2 rfl) ?_
      refine z_iast (ws' := mdL G md ma mb mc mt m1 m2 m3 m4 m5 m6 m7 cd w h cnt most rch tl nc M Y C T (zu CA nc a) CB CN CG CS Z K) hx hb hK hP hD hS 5 rfl (⟨by omega, by omega, by omega⟩) dX5_cell_76 rfl (fun H locs hP hD hS => ?_)
      refine lv_aload_n hx hb dX5_cell_77 rfl (lv_at hl 1 rfl) ?_
      refine gf_X5_38 hx hb hT hown hK hP 0 rfl rfl dX5_cell_78 ?_
      refine lv_iload_n hx hb dX5_cell_81 rfl (lv_at hl 0 rfl) ?_
      refine lv_iload_n hx hb dX5_cell_82 rfl (lv_at hl 3 rfl) ?_
      refine z_iast (ws' := mdL G md ma mb mc mt m1 m2 m3 m4 m5 m6 m7 cd w h cnt most rch tl nc M Y C T (zu CA nc a) (zu CB nc b) CN CG CS Z K) hx hb hK hP hD hS 6 rfl (⟨by omega, by omega, by omega⟩) dX5_cell_83 rfl (fun H locs hP hD hS => ?_)
      refine lv_aload_n hx hb dX5_cell_84 rfl (lv_at hl 1 rfl) ?_
      refine gf_X5_41 hx hb hT hown hK hP 0 rfl rfl dX5_cell_85 ?_
      refine lv_iload_n hx hb dX5_cell_88 rfl (lv_at hl 0 rfl) ?_
      refine lv_iload_n hx hb dX5_cell_89 rfl (lv_at hl 2 rfl) ?_
      refine lv_iload_n hx hb dX5_cell_90 rfl (lv_at hl 2 rfl) ?_
      refine z_imul hx hb dX5_cell_91 ?_
      refine lv_iload_n hx hb dX5_cell_92 rfl (lv_at hl 3 rfl) ?_
      refine lv_iload_n hx hb dX5_cell_93 rfl (lv_at hl 3 rfl) ?_
      refine z_imul hx hb dX5_cell_94 ?_
      refine z_iadd hx hb dX5_cell_95 ?_
      refine z_iast (ws' := mdL G md ma mb mc mt m1 m2 m3 m4 m5 m6 m7 cd w h cnt most rch tl nc M Y C T (zu CA nc a) (zu CB nc b) (zu CN nc ((a * a) + (b * b))) CG CS Z K) hx hb hK hP hD hS 7 rfl (⟨by omega, by omega, by omega⟩) dX5_cell_96 rfl (fun H locs hP hD hS => ?_)
      refine lv_aload_n hx hb dX5_cell_97 rfl (lv_at hl 1 rfl) ?_
      refine gf_X5_44 hx hb hT hown hK hP 0 rfl rfl dX5_cell_98 ?_
      refine lv_iload_n hx hb dX5_cell_101 rfl (lv_at hl 0 rfl) ?_
      refine lv_iload_n hx hb dX5_cell_102 rfl (lv_at hl 2 rfl) ?_
      refine lv_iload_n hx hb dX5_cell_103 rfl (lv_at hl 3 rfl) ?_
      refine z_callS (G := G) (As := [.int (zI (b))]) (rest := [.int (zI (a)), .int (zI (nc)), .ref m4]) hx hb hml hown hT hK (c_X5_size l G (b) (by omega)) kc_X5_122 ⟨Nat.le_of_ble_eq_true rfl, Nat.le_of_ble_eq_true rfl⟩ ⟨rfl, rfl⟩ ⟨Nat.le_of_ble_eq_true rfl, Nat.le_of_ble_eq_true rfl⟩ (hP.sub [] rfl) rfl hl.1 rfl (Nat.le_of_ble_eq_true rfl) dX5_cell_104 ?_
      obtain ⟨ab, eab⟩ : ∃ z : Int, z = (if b < 0 then -b else b) := ⟨_, rfl⟩
      refine z_top ab eab.symm ?_
      have hab : 0 ≤ ab ∧ ab ≤ 100 := by rw [eab]; split <;> omega
      refine z_callS (G := G) (As := [.int (zI (a)), .int (zI (ab))]) (rest := [.int (zI (nc)), .ref m4]) hx hb hml hown hT hK (c_X5_common l G (a) (ab) (by omega) (by omega)) kc_X5_125 ⟨Nat.le_of_ble_eq_true rfl, Nat.le_of_ble_eq_true rfl⟩ ⟨rfl, rfl⟩ ⟨Nat.le_of_ble_eq_true rfl, Nat.le_of_ble_eq_true rfl⟩ (hP.sub [] rfl) rfl hl.1 rfl (Nat.le_of_ble_eq_true rfl) dX5_cell_107 ?_
      refine z_top ((cdR a b 11)) (by rw [eab]; exact hca) ?_
      refine z_iast (ws' := mdL G md ma mb mc mt m1 m2 m3 m4 m5 m6 m7 cd w h cnt most rch tl nc M Y C T (zu CA nc a) (zu CB nc b) (zu CN nc ((a * a) + (b * b))) (zu CG nc (cdR a b 11)) CS Z K) hx hb hK hP hD hS 8 rfl (⟨by omega, by omega, by omega⟩) dX5_cell_110 rfl (fun H locs hP hD hS => ?_)
      refine lv_aload_n hx hb dX5_cell_111 rfl (lv_at hl 1 rfl) ?_
      refine gf_X5_47 hx hb hT hown hK hP 0 rfl rfl dX5_cell_112 ?_
      refine lv_iload_n hx hb dX5_cell_115 rfl (lv_at hl 0 rfl) ?_
      refine lv_iload_n hx hb dX5_cell_116 rfl (lv_at hl 2 rfl) ?_
      refine lv_iload_n hx hb dX5_cell_117 rfl (lv_at hl 3 rfl) ?_
      refine lv_aload_n hx hb dX5_cell_118 rfl (lv_at hl 1 rfl) ?_
      refine gf_X5_44 hx hb hT hown hK hP 0 rfl rfl dX5_cell_119 ?_
      refine lv_iload_n hx hb dX5_cell_122 rfl (lv_at hl 0 rfl) ?_
      refine z_iald hx hb hK hP 8 rfl (⟨by omega, by omega, by omega⟩) dX5_cell_123 ?_
      refine z_top ((cdR a b 11)) (zu_s _ _ _) ?_
      refine z_callS (G := G) (As := [.int (zI (a)), .int (zI (b)), .int (zI ((cdR a b 11)))]) (rest := [.int (zI (nc)), .ref m5]) hx hb hml hown hT hK (c_X5_shiftOf l G (a) (b) ((cdR a b 11)) (by omega) (by omega) (by omega)) kc_X5_128 ⟨Nat.le_of_ble_eq_true rfl, Nat.le_of_ble_eq_true rfl⟩ ⟨rfl, rfl⟩ ⟨Nat.le_of_ble_eq_true rfl, Nat.le_of_ble_eq_true rfl⟩ (hP.sub [] rfl) rfl hl.1 rfl (Nat.le_of_ble_eq_true rfl) dX5_cell_124 ?_
      refine z_iast (ws' := mdL G md ma mb mc mt m1 m2 m3 m4 m5 m6 m7 cd w h cnt most rch tl nc M Y C T (zu CA nc a) (zu CB nc b) (zu CN nc ((a * a) + (b * b))) (zu CG nc (cdR a b 11)) (zu CS nc (fiR a b (cdR a b 11) 25)) Z K) hx hb hK hP hD hS 9 rfl (⟨by omega, by omega, by omega⟩) dX5_cell_127 rfl (fun H locs hP hD hS => ?_)
      refine lv_aload_n hx hb dX5_cell_128 rfl (lv_at hl 1 rfl) ?_
      refine gf_X5_41 hx hb hT hown hK hP 0 rfl rfl dX5_cell_129 ?_
      refine lv_iload_n hx hb dX5_cell_132 rfl (lv_at hl 0 rfl) ?_
      refine z_iald hx hb hK hP 7 rfl (⟨by omega, by omega, by omega⟩) dX5_cell_133 ?_
      refine z_top ((a * a + b * b)) (zu_s _ _ _) ?_
      refine lv_istore (lv' := [(4, .int (zI ((a * a + b * b)))), (3, .int (zI (nc))), (0, .ref md), (1, .int (zI (a))), (2, .int (zI (b)))]) hx hb dX5_cell_134 hl (by decide) rfl (fun ls hl => ?_)
      refine z_iconst hx hb dX5_cell_136 ?_
      refine lv_istore (lv' := [(5, .int (zI (0))), (4, .int (zI ((a * a + b * b)))), (3, .int (zI (nc))), (0, .ref md), (1, .int (zI (a))), (2, .int (zI (b)))]) hx hb dX5_cell_137 hl (by decide) rfl (fun ls hl => ?_)
      have hP : zP G (mdL G md ma mb mc mt m1 m2 m3 m4 m5 m6 m7 cd w h cnt most rch tl nc M Y C T (zu CA nc a) (zu CB nc b) (zu CN nc ((a * a) + (b * b))) (zu CG nc (cdR a b 11)) (zu CS nc (fiR a b (cdR a b 11) 25)) (ZS Z (300 * nc) 0 (fun _ => (a * a + b * b))) K) H := by rw [ZS_0]; exact hP
      have hD : va_D A (mdL G md ma mb mc mt m1 m2 m3 m4 m5 m6 m7 cd w h cnt most rch tl nc M Y C T (zu CA nc a) (zu CB nc b) (zu CN nc ((a * a) + (b * b))) (zu CG nc (cdR a b 11)) (zu CS nc (fiR a b (cdR a b 11) 25)) (ZS Z (300 * nc) 0 (fun _ => (a * a + b * b))) K) := by rw [ZS_0]; exact hD
      refine z_loopH (σ := Int × Array Slot) (fun zq => F0 m 139 (zq.2) []) (fun zq => (0 ≤ zq.1 ∧ zq.1 ≤ (a * a + b * b)) ∧ lv_has (zq.2) 9 [(0, .ref md), (1, .int (zI (a))), (2, .int (zI (b))), (3, .int (zI (nc))), (4, .int (zI ((a * a + b * b)))), (5, .int (zI (zq.1)))]) (fun zq => mdL G md ma mb mc mt m1 m2 m3 m4 m5 m6 m7 cd w h cnt most rch tl nc M Y C T (zu CA nc a) (zu CB nc b) (zu CN nc ((a * a) + (b * b))) (zu CG nc (cdR a b 11)) (zu CS nc (fiR a b (cdR a b 11) 25)) (ZS Z (300 * nc) zq.1 (fun _ => (a * a + b * b))) K) (fun zq => ((a * a + b * b) - zq.1).toNat) ?_ (0, ls) ⟨by refine ⟨?_, ?_⟩ <;> omega, lv_sub hl [3, 4, 5, 2, 1, 0] rfl⟩ hP hD hS
      intro zq H locs hq hP hD hS ih
      obtain ⟨i0, ls⟩ := zq
      obtain ⟨hI, hl⟩ := hq
      try dsimp only at hI hl ih hP hD ⊢
      have hP : zP G (mdL G md ma mb mc mt m1 m2 m3 m4 m5 m6 m7 cd w h cnt most rch tl nc M Y C T (zu CA nc a) (zu CB nc b) (zu CN nc ((a * a) + (b * b))) (zu CG nc (cdR a b 11)) (zu CS nc (fiR a b (cdR a b 11) 25)) (ZS Z (300 * nc) i0 (fun _ => (a * a + b * b))) K) H := hP
      have hD : va_D A (mdL G md ma mb mc mt m1 m2 m3 m4 m5 m6 m7 cd w h cnt most rch tl nc M Y C T (zu CA nc a) (zu CB nc b) (zu CN nc ((a * a) + (b * b))) (zu CG nc (cdR a b 11)) (zu CS nc (fiR a b (cdR a b 11) 25)) (ZS Z (300 * nc) i0 (fun _ => (a * a + b * b))) K) := hD
      have ih139 := ih
      refine lv_iload hx hb dX5_cell_139 (lv_at hl 5 rfl) ?_
      refine lv_iload hx hb dX5_cell_141 (lv_at hl 4 rfl) ?_
      refine z_icmp_ge (tgt := 167) hx hb dX5_cell_143 (by decide) (by omega) (by omega) (fun h143 => ?_) (fun h143 => ?_)
      · skip
        have hi9 : i0 = (a * a + b * b) := by omega
        rw [hi9] at hP hD
        have hci : clIn (zu CN nc (a * a + b * b)) (zu CG nc (cdR a b 11)) (zu CS nc (fiR a b (cdR a b 11) 25)) nc := by unfold clIn; rw [zu_s, zu_s, zu_s]; exact ⟨by omega, by omega, by omega, by omega⟩
        refine z_bipush hx hb dX5_cell_167 (by decide +kernel) ?_
        refine lv_istore (lv' := [(5, .int (zI ((-13)))), (0, .ref md), (1, .int (zI (a))), (2, .int (zI (b))), (3, .int (zI (nc))), (4, .int (zI ((a * a + b * b))))]) hx hb dX5_cell_169 hl (by decide) rfl (fun ls hl => ?_)
        refine z_loopH (σ := (Int → Int) × Int × Array Slot) (fun zq => F0 m 171 (zq.2.2) []) (fun zq => ((-13 ≤ zq.2.1 ∧ zq.2.1 ≤ 14) ∧ isM (a * a + b * b) (a * a + b * b) (nmV (cdR a b 11) ((a * a + b * b) / (cdR a b 11)) (fiR a b (cdR a b 11) 25)) (wnd 13 (-13) zq.2.1) zq.1) ∧ lv_has (zq.2.2) 9 [(0, .ref md), (1, .int (zI (a))), (2, .int (zI (b))), (3, .int (zI (nc))), (4, .int (zI ((a * a + b * b)))), (5, .int (zI (zq.2.1)))]) (fun zq => mdL G md ma mb mc mt m1 m2 m3 m4 m5 m6 m7 cd w h cnt most rch tl nc M Y C T (zu CA nc a) (zu CB nc b) (zu CN nc ((a * a) + (b * b))) (zu CG nc (cdR a b 11)) (zu CS nc (fiR a b (cdR a b 11) 25)) (ZS Z (300 * nc) (a * a + b * b) zq.1) K) (fun zq => (14 - zq.2.1).toNat) ?_ ((fun _ => (a * a + b * b)), (-13), ls) ⟨⟨by dsimp only; omega, isM_0 (by omega) (fun x9 y9 => by unfold wnd; dsimp only; omega) (fun i9 h1 h2 => rfl)⟩, lv_sub hl [1, 2, 3, 4, 5, 0] rfl⟩ hP hD hS
        intro zq H locs hq hP hD hS ih
        obtain ⟨S, y, ls⟩ := zq
        obtain ⟨⟨hI, hI2⟩, hl⟩ := hq
        try dsimp only at hI hI2 hl ih hP hD ⊢
        have hP : zP G (mdL G md ma mb mc mt m1 m2 m3 m4 m5 m6 m7 cd w h cnt most rch tl nc M Y C T (zu CA nc a) (zu CB nc b) (zu CN nc ((a * a) + (b * b))) (zu CG nc (cdR a b 11)) (zu CS nc (fiR a b (cdR a b 11) 25)) (ZS Z (300 * nc) (a * a + b * b) S) K) H := hP
        have hD : va_D A (mdL G md ma mb mc mt m1 m2 m3 m4 m5 m6 m7 cd w h cnt most rch tl nc M Y C T (zu CA nc a) (zu CB nc b) (zu CN nc ((a * a) + (b * b))) (zu CG nc (cdR a b 11)) (zu CS nc (fiR a b (cdR a b 11) 25)) (ZS Z (300 * nc) (a * a + b * b) S) K) := hD
        have ih171 := ih
        refine lv_iload hx hb dX5_cell_171 (lv_at hl 5 rfl) ?_
        refine z_bipush hx hb dX5_cell_173 (by decide +kernel) ?_
        refine z_icmp_gt (tgt := 246) hx hb dX5_cell_175 (by decide) (by omega) (by omega) (fun h175 => ?_) (fun h175 => ?_)
        · skip
          have hfin := isM_full hI2 (by omega)
          refine z_iconst hx hb dX5_cell_246 ?_
          refine lv_istore (lv' := [(5, .int (zI (0))), (0, .ref md), (1, .int (zI (a))), (2, .int (zI (b))), (3, .int (zI (nc))), (4, .int (zI ((a * a + b * b))))]) hx hb dX5_cell_247 hl (by decide) rfl (fun ls hl => ?_)
          have hP : zP G (mdL G md ma mb mc mt m1 m2 m3 m4 m5 m6 m7 cd w h cnt most rch tl nc M Y C T (zu CA nc a) (zu CB nc b) (zu CN nc ((a * a) + (b * b))) (zu CG nc (cdR a b 11)) (zu CS nc (fiR a b (cdR a b 11) 25)) (ZS Z (300 * nc) (a * a + b * b) S) (ZS K (300 * nc) 0 (rkF S (a * a + b * b)))) H := by rw [ZS_0]; exact hP
          have hD : va_D A (mdL G md ma mb mc mt m1 m2 m3 m4 m5 m6 m7 cd w h cnt most rch tl nc M Y C T (zu CA nc a) (zu CB nc b) (zu CN nc ((a * a) + (b * b))) (zu CG nc (cdR a b 11)) (zu CS nc (fiR a b (cdR a b 11) 25)) (ZS Z (300 * nc) (a * a + b * b) S) (ZS K (300 * nc) 0 (rkF S (a * a + b * b)))) := by rw [ZS_0]; exact hD
          refine z_loopH (σ := Int × Array Slot) (fun zq => F0 m 249 (zq.2) []) (fun zq => (0 ≤ zq.1 ∧ zq.1 ≤ (a * a + b * b)) ∧ lv_has (zq.2) 9 [(0, .ref md), (1, .int (zI (a))), (2, .int (zI (b))), (3, .int (zI (nc))), (4, .int (zI ((a * a + b * b)))), (5, .int (zI (zq.1)))]) (fun zq => mdL G md ma mb mc mt m1 m2 m3 m4 m5 m6 m7 cd w h cnt most rch tl nc M Y C T (zu CA nc a) (zu CB nc b) (zu CN nc ((a * a) + (b * b))) (zu CG nc (cdR a b 11)) (zu CS nc (fiR a b (cdR a b 11) 25)) (ZS Z (300 * nc) (a * a + b * b) S) (ZS K (300 * nc) zq.1 (rkF S (a * a + b * b)))) (fun zq => ((a * a + b * b) - zq.1).toNat) ?_ (0, ls) ⟨by refine ⟨?_, ?_⟩ <;> omega, lv_sub hl [1, 2, 3, 4, 5, 0] rfl⟩ hP hD hS
          intro zq H locs hq hP hD hS ih
          obtain ⟨i, ls⟩ := zq
          obtain ⟨hI3, hl⟩ := hq
          try dsimp only at hI3 hl ih hP hD ⊢
          have hP : zP G (mdL G md ma mb mc mt m1 m2 m3 m4 m5 m6 m7 cd w h cnt most rch tl nc M Y C T (zu CA nc a) (zu CB nc b) (zu CN nc ((a * a) + (b * b))) (zu CG nc (cdR a b 11)) (zu CS nc (fiR a b (cdR a b 11) 25)) (ZS Z (300 * nc) (a * a + b * b) S) (ZS K (300 * nc) i (rkF S (a * a + b * b)))) H := hP
          have hD : va_D A (mdL G md ma mb mc mt m1 m2 m3 m4 m5 m6 m7 cd w h cnt most rch tl nc M Y C T (zu CA nc a) (zu CB nc b) (zu CN nc ((a * a) + (b * b))) (zu CG nc (cdR a b 11)) (zu CS nc (fiR a b (cdR a b 11) 25)) (ZS Z (300 * nc) (a * a + b * b) S) (ZS K (300 * nc) i (rkF S (a * a + b * b)))) := hD
          have ih249 := ih
          refine lv_iload hx hb dX5_cell_249 (lv_at hl 5 rfl) ?_
          refine lv_iload hx hb dX5_cell_251 (lv_at hl 4 rfl) ?_
          refine z_icmp_ge (tgt := 352) hx hb dX5_cell_253 (by decide) (by omega) (by omega) (fun h253 => ?_) (fun h253 => ?_)
          · skip
            have hi8 : i = (a * a + b * b) := by omega
            rw [hi8] at hP hD
            refine lv_aload_n hx hb dX5_cell_352 rfl (lv_at hl 0 rfl) ?_
            refine lv_dup hx hb dX5_cell_353 rfl ?_
            refine gf_X5_119 hx hb hT hown hK hP 0 rfl rfl dX5_cell_354 ?_
            refine z_iconst hx hb dX5_cell_357 ?_
            refine z_iadd hx hb dX5_cell_358 ?_
            refine pf_X5_119 (ws' := mdL G md ma mb mc mt m1 m2 m3 m4 m5 m6 m7 cd w h cnt most rch tl (nc + 1) M Y C T (zu CA nc a) (zu CB nc b) (zu CN nc ((a * a) + (b * b))) (zu CG nc (cdR a b 11)) (zu CS nc (fiR a b (cdR a b 11) 25)) (ZS Z (300 * nc) (a * a + b * b) S) (ZS K (300 * nc) (a * a + b * b) (rkF S (a * a + b * b)))) hx hb hT hown hK hP hD hS 0 rfl (Nat.le_of_ble_eq_true rfl) rfl rfl rfl dX5_cell_359 (fun H locs hP hD hS => ?_)
            refine lv_iload_n hx hb dX5_cell_362 rfl (lv_at hl 3 rfl) ?_
            have hQ : mdL G md ma mb mc mt m1 m2 m3 m4 m5 m6 m7 (cCel a b nc) w h cnt most rch tl (if cCel a b nc = 0 then nc + 1 else nc) M Y C T (if cCel a b nc = 0 then (zu CA nc a) else CA) (if cCel a b nc = 0 then (zu CB nc b) else CB) (if cCel a b nc = 0 then (zu CN nc (a * a + b * b)) else CN) (if cCel a b nc = 0 then (zu CG nc (cdR a b 11)) else CG) (if cCel a b nc = 0 then (zu CS nc (fiR a b (cdR a b 11) 25)) else CS) (if cCel a b nc = 0 then (ZS Z (300 * nc) (a * a + b * b) S) else Z) (if cCel a b nc = 0 then (ZS K (300 * nc) (a * a + b * b) (rkF S (a * a + b * b))) else K) = mdL G md ma mb mc mt m1 m2 m3 m4 m5 m6 m7 cd w h cnt most rch tl (nc + 1) M Y C T (zu CA nc a) (zu CB nc b) (zu CN nc ((a * a) + (b * b))) (zu CG nc (cdR a b 11)) (zu CS nc (fiR a b (cdR a b 11) 25)) (ZS Z (300 * nc) (a * a + b * b) S) (ZS K (300 * nc) (a * a + b * b) (rkF S (a * a + b * b))) := by rw [← ecd] <;> (by_cases hc0 : cd = 0) <;> first | (exfalso; omega) | (simp only [if_pos hc0]; done) | (simp only [if_neg hc0]; done) | rfl
            exact z_wri S hx hb hr hlocks hK (by rw [hQ]; exact hP) (by rw [hQ]; exact hD) hS (fun _ => hfin) (by rw [← ecd] <;> (by_cases hc0 : cd = 0) <;> first | (exfalso; omega) | (rw [if_pos hc0]; done) | (rw [if_neg hc0]; done)) dX5_cell_363
          · skip
            obtain ⟨u1, u2, -, -⟩ := hfin i (by omega) (by omega)
            refine z_iconst hx hb dX5_cell_256 ?_
            refine z_top (cntB (ltB S i) (0 : Int).toNat) (rfl) ?_
            refine lv_istore (lv' := [(6, .int (zI (cntB (ltB S i) (0 : Int).toNat))), (0, .ref md), (1, .int (zI (a))), (2, .int (zI (b))), (3, .int (zI (nc))), (4, .int (zI ((a * a + b * b)))), (5, .int (zI (i)))]) hx hb dX5_cell_257 hl (by decide) rfl (fun ls hl => ?_)
            refine z_iconst hx hb dX5_cell_259 ?_
            refine lv_istore (lv' := [(7, .int (zI (0))), (6, .int (zI (cntB (ltB S i) (0 : Int).toNat))), (0, .ref md), (1, .int (zI (a))), (2, .int (zI (b))), (3, .int (zI (nc))), (4, .int (zI ((a * a + b * b)))), (5, .int (zI (i)))]) hx hb dX5_cell_260 hl (by decide) rfl (fun ls hl => ?_)
            refine z_loopH (σ := Int × Array Slot) (fun zq => F0 m 262 (zq.2) []) (fun zq => (0 ≤ zq.1 ∧ zq.1 ≤ (a * a + b * b)) ∧ lv_has (zq.2) 9 [(0, .ref md), (1, .int (zI (a))), (2, .int (zI (b))), (3, .int (zI (nc))), (4, .int (zI ((a * a + b * b)))), (5, .int (zI (i))), (6, .int (zI (cntB (ltB S i) zq.1.toNat))), (7, .int (zI (zq.1)))]) (fun zq => mdL G md ma mb mc mt m1 m2 m3 m4 m5 m6 m7 cd w h cnt most rch tl nc M Y C T (zu CA nc a) (zu CB nc b) (zu CN nc ((a * a) + (b * b))) (zu CG nc (cdR a b 11)) (zu CS nc (fiR a b (cdR a b 11) 25)) (ZS Z (300 * nc) (a * a + b * b) S) (ZS K (300 * nc) i (rkF S (a * a + b * b)))) (fun zq => ((a * a + b * b) - zq.1).toNat) ?_ (0, ls) ⟨by refine ⟨?_, ?_⟩ <;> omega, lv_sub hl [2, 3, 4, 5, 6, 7, 1, 0] rfl⟩ hP hD hS
            intro zq H locs hq hP hD hS ih
            obtain ⟨j, ls⟩ := zq
            obtain ⟨hI4, hl⟩ := hq
            try dsimp only at hI4 hl ih hP hD ⊢
            have hP : zP G (mdL G md ma mb mc mt m1 m2 m3 m4 m5 m6 m7 cd w h cnt most rch tl nc M Y C T (zu CA nc a) (zu CB nc b) (zu CN nc ((a * a) + (b * b))) (zu CG nc (cdR a b 11)) (zu CS nc (fiR a b (cdR a b 11) 25)) (ZS Z (300 * nc) (a * a + b * b) S) (ZS K (300 * nc) i (rkF S (a * a + b * b)))) H := hP
            have hD : va_D A (mdL G md ma mb mc mt m1 m2 m3 m4 m5 m6 m7 cd w h cnt most rch tl nc M Y C T (zu CA nc a) (zu CB nc b) (zu CN nc ((a * a) + (b * b))) (zu CG nc (cdR a b 11)) (zu CS nc (fiR a b (cdR a b 11) 25)) (ZS Z (300 * nc) (a * a + b * b) S) (ZS K (300 * nc) i (rkF S (a * a + b * b)))) := hD
            have ih262 := ih
            refine lv_iload hx hb dX5_cell_262 (lv_at hl 7 rfl) ?_
            refine lv_iload hx hb dX5_cell_264 (lv_at hl 4 rfl) ?_
            refine z_icmp_ge (tgt := 331) hx hb dX5_cell_266 (by decide) (by omega) (by omega) (fun h266 => ?_) (fun h266 => ?_)
            · skip
              refine lv_aload_n hx hb dX5_cell_331 rfl (lv_at hl 0 rfl) ?_
              refine gf_X5_53 hx hb hT hown hK hP 0 rfl rfl dX5_cell_332 ?_
              refine z_sipush hx hb dX5_cell_335 (by decide +kernel) ?_
              refine lv_iload_n hx hb dX5_cell_338 rfl (lv_at hl 3 rfl) ?_
              refine z_imul hx hb dX5_cell_339 ?_
              refine lv_iload hx hb dX5_cell_340 (lv_at hl 5 rfl) ?_
              refine z_iadd hx hb dX5_cell_342 ?_
              refine lv_iload hx hb dX5_cell_343 (lv_at hl 6 rfl) ?_
              refine z_top ((rkF S (a * a + b * b) i)) (by rw [show j = (a * a + b * b) by omega]; rfl) ?_
              refine z_iast (ws' := mdL G md ma mb mc mt m1 m2 m3 m4 m5 m6 m7 cd w h cnt most rch tl nc M Y C T (zu CA nc a) (zu CB nc b) (zu CN nc ((a * a) + (b * b))) (zu CG nc (cdR a b 11)) (zu CS nc (fiR a b (cdR a b 11) 25)) (ZS Z (300 * nc) (a * a + b * b) S) (zu (ZS K (300 * nc) i (rkF S (a * a + b * b))) ((300 * nc) + i) (rkF S (a * a + b * b) i))) hx hb hK hP hD hS 11 rfl (⟨by omega, by omega, by omega⟩) dX5_cell_345 rfl (fun H locs hP hD hS => ?_)
              rw [show (zu (ZS K (300 * nc) i (rkF S (a * a + b * b))) ((300 * nc) + i) (rkF S (a * a + b * b) i)) = (ZS K (300 * nc) (i + 1) (rkF S (a * a + b * b))) from ZS_s _ _ _ (by omega)] at hP hD
              refine lv_iinc (v := zI (i + (1))) (lv' := [(5, .int (zI (i + (1)))), (0, .ref md), (1, .int (zI (a))), (2, .int (zI (b))), (3, .int (zI (nc))), (4, .int (zI ((a * a + b * b)))), (6, .int (zI (cntB (ltB S i) j.toNat))), (7, .int (zI (j)))]) hx hb dX5_cell_346 hl (k := 5) rfl (zI_add _ _) (by decide) rfl (fun ls hl => ?_)
              refine z_goto (tgt := 249) hx hb dX5_cell_349 (by decide) ?_
              exact ih249 (i + 1, ls) _ _ ⟨by refine ⟨?_, ?_⟩ <;> omega, lv_sub hl [1, 2, 3, 4, 5, 0] rfl⟩ (by omega) hP hD hS
            · skip
              obtain ⟨u3, u4, -, -⟩ := hfin j (by omega) (by omega)
              have hcb9 := cntB_b (ltB S i) j.toNat
              refine lv_aload_n hx hb dX5_cell_269 rfl (lv_at hl 0 rfl) ?_
              refine gf_X5_50 hx hb hT hown hK hP 0 rfl rfl dX5_cell_270 ?_
              refine z_sipush hx hb dX5_cell_273 (by decide +kernel) ?_
              refine lv_iload_n hx hb dX5_cell_276 rfl (lv_at hl 3 rfl) ?_
              refine z_imul hx hb dX5_cell_277 ?_
              refine lv_iload hx hb dX5_cell_278 (lv_at hl 7 rfl) ?_
              refine z_iadd hx hb dX5_cell_280 ?_
              refine z_iald hx hb hK hP 10 rfl (⟨by omega, by omega, by omega⟩) dX5_cell_281 ?_
              refine z_top ((S j)) (ZS_at _ _ _ (by omega)) ?_
              refine lv_aload_n hx hb dX5_cell_282 rfl (lv_at hl 0 rfl) ?_
              refine gf_X5_50 hx hb hT hown hK hP 0 rfl rfl dX5_cell_283 ?_
              refine z_sipush hx hb dX5_cell_286 (by decide +kernel) ?_
              refine lv_iload_n hx hb dX5_cell_289 rfl (lv_at hl 3 rfl) ?_
              refine z_imul hx hb dX5_cell_290 ?_
              refine lv_iload hx hb dX5_cell_291 (lv_at hl 5 rfl) ?_
              refine z_iadd hx hb dX5_cell_293 ?_
              refine z_iald hx hb hK hP 10 rfl (⟨by omega, by omega, by omega⟩) dX5_cell_294 ?_
              refine z_top ((S i)) (ZS_at _ _ _ (by omega)) ?_
              refine z_isub hx hb dX5_cell_295 ?_
              refine lv_istore (lv' := [(8, .int (zI (((S j) - (S i))))), (0, .ref md), (1, .int (zI (a))), (2, .int (zI (b))), (3, .int (zI (nc))), (4, .int (zI ((a * a + b * b)))), (5, .int (zI (i))), (6, .int (zI (cntB (ltB S i) j.toNat))), (7, .int (zI (j)))]) hx hb dX5_cell_296 hl (by decide) rfl (fun ls hl => ?_)
              refine z_cutH (A := A) (H0 := s.heap) (G := G) (σ := Array Slot) (fun zq => F0 m 322 (zq) [.int (zI (bI (ltB S i j))), .int (zI (cntB (ltB S i) j.toNat))]) (fun zq => (True) ∧ lv_has (zq) 9 [(8, .int (zI (((S j) - (S i))))), (0, .ref md), (1, .int (zI (a))), (2, .int (zI (b))), (3, .int (zI (nc))), (4, .int (zI ((a * a + b * b)))), (5, .int (zI (i))), (6, .int (zI (cntB (ltB S i) j.toNat))), (7, .int (zI (j)))]) (fun zq => mdL G md ma mb mc mt m1 m2 m3 m4 m5 m6 m7 cd w h cnt most rch tl nc M Y C T (zu CA nc a) (zu CB nc b) (zu CN nc ((a * a) + (b * b))) (zu CG nc (cdR a b 11)) (zu CS nc (fiR a b (cdR a b 11) 25)) (ZS Z (300 * nc) (a * a + b * b) S) (ZS K (300 * nc) i (rkF S (a * a + b * b)))) ?_ ?_
              · intro ls H locs hq hP hD hS
                obtain ⟨hJ, hl⟩ := hq
                try dsimp only at hJ hl hP hD ⊢
                have hP : zP G (mdL G md ma mb mc mt m1 m2 m3 m4 m5 m6 m7 cd w h cnt most rch tl nc M Y C T (zu CA nc a) (zu CB nc b) (zu CN nc ((a * a) + (b * b))) (zu CG nc (cdR a b 11)) (zu CS nc (fiR a b (cdR a b 11) 25)) (ZS Z (300 * nc) (a * a + b * b) S) (ZS K (300 * nc) i (rkF S (a * a + b * b)))) H := hP
                have hD : va_D A (mdL G md ma mb mc mt m1 m2 m3 m4 m5 m6 m7 cd w h cnt most rch tl nc M Y C T (zu CA nc a) (zu CB nc b) (zu CN nc ((a * a) + (b * b))) (zu CG nc (cdR a b 11)) (zu CS nc (fiR a b (cdR a b 11) 25)) (ZS Z (300 * nc) (a * a + b * b) S) (ZS K (300 * nc) i (rkF S (a * a + b * b)))) := hD
                refine z_iadd hx hb dX5_cell_322 ?_
                refine z_top (cntB (ltB S i) (j + 1).toNat) ((cntB_s _ (by omega)).symm) ?_
                refine lv_istore (lv' := [(6, .int (zI (cntB (ltB S i) (j + 1).toNat))), (8, .int (zI (((S j) - (S i))))), (0, .ref md), (1, .int (zI (a))), (2, .int (zI (b))), (3, .int (zI (nc))), (4, .int (zI ((a * a + b * b)))), (5, .int (zI (i))), (7, .int (zI (j)))]) hx hb dX5_cell_323 hl (by decide) rfl (fun ls hl => ?_)
                refine lv_iinc (v := zI (j + (1))) (lv' := [(7, .int (zI (j + (1)))), (6, .int (zI (cntB (ltB S i) (j + 1).toNat))), (8, .int (zI (((S j) - (S i))))), (0, .ref md), (1, .int (zI (a))), (2, .int (zI (b))), (3, .int (zI (nc))), (4, .int (zI ((a * a + b * b)))), (5, .int (zI (i)))]) hx hb dX5_cell_325 hl (k := 8) rfl (zI_add _ _) (by decide) rfl (fun ls hl => ?_)
                refine z_goto (tgt := 262) hx hb dX5_cell_328 (by decide) ?_
                exact ih262 (j + 1, ls) _ _ ⟨by refine ⟨?_, ?_⟩ <;> omega, lv_sub hl [3, 4, 5, 6, 7, 8, 1, 0] rfl⟩ (by omega) hP hD hS
              intro J322
              refine lv_iload hx hb dX5_cell_298 (lv_at hl 7 rfl) ?_
              refine lv_iload hx hb dX5_cell_300 (lv_at hl 0 rfl) ?_
              refine z_if_lt (tgt := 317) hx hb dX5_cell_302 (by decide) (by omega) (fun h302 => ?_) (fun h302 => ?_)
              · skip
                refine z_iconst hx hb dX5_cell_317 ?_
                refine z_goto (tgt := 322) hx hb dX5_cell_318 (by decide) ?_
                refine z_top (bI (ltB S i j)) (bI_1 (q := S j < S i ∨ (S j = S i ∧ j < i)) (by omega)) ?_
                exact J322 (ls) _ _ ⟨trivial, lv_sub hl [0, 1, 2, 3, 4, 5, 6, 7, 8] rfl⟩ hP hD hS
              · skip
                refine lv_iload hx hb dX5_cell_305 (lv_at hl 0 rfl) ?_
                refine z_if_ne (tgt := 321) hx hb dX5_cell_307 (by decide) (by omega) (fun h307 => ?_) (fun h307 => ?_)
                · skip
                  refine z_iconst hx hb dX5_cell_321 ?_
                  refine z_top (bI (ltB S i j)) (bI_0 (q := S j < S i ∨ (S j = S i ∧ j < i)) (by omega)) ?_
                  exact J322 (ls) _ _ ⟨trivial, lv_sub hl [0, 1, 2, 3, 4, 5, 6, 7, 8] rfl⟩ hP hD hS
                · skip
                  refine lv_iload hx hb dX5_cell_310 (lv_at hl 8 rfl) ?_
                  refine lv_iload hx hb dX5_cell_312 (lv_at hl 6 rfl) ?_
                  refine z_icmp_ge (tgt := 321) hx hb dX5_cell_314 (by decide) (by omega) (by omega) (fun h314 => ?_) (fun h314 => ?_)
                  · skip
                    refine z_iconst hx hb dX5_cell_321 ?_
                    refine z_top (bI (ltB S i j)) (bI_0 (q := S j < S i ∨ (S j = S i ∧ j < i)) (by omega)) ?_
                    exact J322 (ls) _ _ ⟨trivial, lv_sub hl [0, 1, 2, 3, 4, 5, 6, 7, 8] rfl⟩ hP hD hS
                  · skip
                    refine z_iconst hx hb dX5_cell_317 ?_
                    refine z_goto (tgt := 322) hx hb dX5_cell_318 (by decide) ?_
                    refine z_top (bI (ltB S i j)) (bI_1 (q := S j < S i ∨ (S j = S i ∧ j < i)) (by omega)) ?_
                    exact J322 (ls) _ _ ⟨trivial, lv_sub hl [0, 1, 2, 3, 4, 5, 6, 7, 8] rfl⟩ hP hD hS
        · skip
          refine z_bipush hx hb dX5_cell_178 (by decide +kernel) ?_
          refine lv_istore (lv' := [(6, .int (zI ((-13)))), (0, .ref md), (1, .int (zI (a))), (2, .int (zI (b))), (3, .int (zI (nc))), (4, .int (zI ((a * a + b * b)))), (5, .int (zI (y)))]) hx hb dX5_cell_180 hl (by decide) rfl (fun ls hl => ?_)
          refine z_loopH (σ := (Int → Int) × Int × Array Slot) (fun zq => F0 m 182 (zq.2.2) []) (fun zq => ((-13 ≤ zq.2.1 ∧ zq.2.1 ≤ 14) ∧ isM (a * a + b * b) (a * a + b * b) (nmV (cdR a b 11) ((a * a + b * b) / (cdR a b 11)) (fiR a b (cdR a b 11) 25)) (wnd 13 zq.2.1 y) zq.1) ∧ lv_has (zq.2.2) 9 [(0, .ref md), (1, .int (zI (a))), (2, .int (zI (b))), (3, .int (zI (nc))), (4, .int (zI ((a * a + b * b)))), (5, .int (zI (y))), (6, .int (zI (zq.2.1)))]) (fun zq => mdL G md ma mb mc mt m1 m2 m3 m4 m5 m6 m7 cd w h cnt most rch tl nc M Y C T (zu CA nc a) (zu CB nc b) (zu CN nc ((a * a) + (b * b))) (zu CG nc (cdR a b 11)) (zu CS nc (fiR a b (cdR a b 11) 25)) (ZS Z (300 * nc) (a * a + b * b) zq.1) K) (fun zq => (14 - zq.2.1).toNat) ?_ (S, (-13), ls) ⟨⟨by dsimp only; omega, hI2⟩, lv_sub hl [1, 2, 3, 4, 5, 6, 0] rfl⟩ hP hD hS
          intro zq H locs hq hP hD hS ih
          obtain ⟨S1, x, ls⟩ := zq
          obtain ⟨⟨hJ, hJ2⟩, hl⟩ := hq
          try dsimp only at hJ hJ2 hl ih hP hD ⊢
          have hP : zP G (mdL G md ma mb mc mt m1 m2 m3 m4 m5 m6 m7 cd w h cnt most rch tl nc M Y C T (zu CA nc a) (zu CB nc b) (zu CN nc ((a * a) + (b * b))) (zu CG nc (cdR a b 11)) (zu CS nc (fiR a b (cdR a b 11) 25)) (ZS Z (300 * nc) (a * a + b * b) S1) K) H := hP
          have hD : va_D A (mdL G md ma mb mc mt m1 m2 m3 m4 m5 m6 m7 cd w h cnt most rch tl nc M Y C T (zu CA nc a) (zu CB nc b) (zu CN nc ((a * a) + (b * b))) (zu CG nc (cdR a b 11)) (zu CS nc (fiR a b (cdR a b 11) 25)) (ZS Z (300 * nc) (a * a + b * b) S1) K) := hD
          have ih182 := ih
          refine lv_iload hx hb dX5_cell_182 (lv_at hl 6 rfl) ?_
          refine z_bipush hx hb dX5_cell_184 (by decide +kernel) ?_
          refine z_icmp_gt (tgt := 240) hx hb dX5_cell_186 (by decide) (by omega) (by omega) (fun h186 => ?_) (fun h186 => ?_)
          · skip
            refine lv_iinc (v := zI (y + (1))) (lv' := [(5, .int (zI (y + (1)))), (0, .ref md), (1, .int (zI (a))), (2, .int (zI (b))), (3, .int (zI (nc))), (4, .int (zI ((a * a + b * b)))), (6, .int (zI (x)))]) hx hb dX5_cell_240 hl (k := 5) rfl (zI_add _ _) (by decide) rfl (fun ls hl => ?_)
            refine z_goto (tgt := 171) hx hb dX5_cell_243 (by decide) ?_
            exact ih171 (S1, y + 1, ls) _ _ ⟨⟨by dsimp only; omega, isM_row hJ2 (by omega)⟩, lv_sub hl [1, 2, 3, 4, 5, 0] rfl⟩ (by dsimp only; omega) hP hD hS
          · skip
            have hnb := nm_b (sl := (fiR a b (cdR a b 11) 25)) (x := x) (y := y) hfd hfb
            obtain ⟨g1, g2, -, -⟩ := hJ2 (nmV (cdR a b 11) ((a * a + b * b) / (cdR a b 11)) (fiR a b (cdR a b 11) 25) x y) (by omega) (by omega)
            have q1 := mul_bs (a := x) (b := x) (A := 13) (B := 13) (by omega) (by omega)
            have q2 := mul_bs (a := y) (b := y) (A := 13) (B := 13) (by omega) (by omega)
            refine z_sipush hx hb dX5_cell_189 (by decide +kernel) ?_
            refine lv_iload_n hx hb dX5_cell_192 rfl (lv_at hl 3 rfl) ?_
            refine z_imul hx hb dX5_cell_193 ?_
            refine lv_aload_n hx hb dX5_cell_194 rfl (lv_at hl 0 rfl) ?_
            refine lv_iload_n hx hb dX5_cell_195 rfl (lv_at hl 3 rfl) ?_
            refine lv_iload hx hb dX5_cell_196 (lv_at hl 6 rfl) ?_
            refine lv_iload hx hb dX5_cell_198 (lv_at hl 5 rfl) ?_
            refine z_callV (q0 := 0) (G := G) (As := [.int (zI (nc)), .int (zI (x)), .int (zI (y))]) (rest := [.int (zI ((300 * nc)))]) hx hb hml hown hT hK (c_X5_sameOf l G md ma mb mc mt m1 m2 m3 m4 m5 m6 m7 cd w h cnt most rch tl nc M Y C T (zu CA nc a) (zu CB nc b) (zu CN nc ((a * a) + (b * b))) (zu CG nc (cdR a b 11)) (zu CS nc (fiR a b (cdR a b 11) 25)) (ZS Z (300 * nc) (a * a + b * b) S1) K (nc) (x) (y) (by omega) hci (by omega) (by omega)) kc_X5_131 ⟨Nat.le_of_ble_eq_true rfl, Nat.le_of_ble_eq_true rfl⟩ ⟨rfl, rfl⟩ ⟨Nat.le_of_ble_eq_true rfl, Nat.le_of_ble_eq_true rfl⟩ hP rfl rfl rfl rfl hl.1 rfl (Nat.le_of_ble_eq_true rfl) dX5_cell_200 ?_
            refine z_top ((nmV (cdR a b 11) ((a * a + b * b) / (cdR a b 11)) (fiR a b (cdR a b 11) 25) x y)) (by rw [zu_s, zu_s, zu_s]) ?_
            refine z_iadd hx hb dX5_cell_203 ?_
            refine lv_istore (lv' := [(7, .int (zI (((300 * nc) + (nmV (cdR a b 11) ((a * a + b * b) / (cdR a b 11)) (fiR a b (cdR a b 11) 25) x y))))), (0, .ref md), (1, .int (zI (a))), (2, .int (zI (b))), (3, .int (zI (nc))), (4, .int (zI ((a * a + b * b)))), (5, .int (zI (y))), (6, .int (zI (x)))]) hx hb dX5_cell_204 hl (by decide) rfl (fun ls hl => ?_)
            refine lv_aload_n hx hb dX5_cell_206 rfl (lv_at hl 1 rfl) ?_
            refine gf_X5_50 hx hb hT hown hK hP 0 rfl rfl dX5_cell_207 ?_
            refine lv_iload hx hb dX5_cell_210 (lv_at hl 0 rfl) ?_
            refine lv_aload_n hx hb dX5_cell_212 rfl (lv_at hl 1 rfl) ?_
            refine gf_X5_50 hx hb hT hown hK hP 0 rfl rfl dX5_cell_213 ?_
            refine lv_iload hx hb dX5_cell_216 (lv_at hl 0 rfl) ?_
            refine z_iald hx hb hK hP 10 rfl (⟨by omega, by omega, by omega⟩) dX5_cell_218 ?_
            refine z_top ((S1 (nmV (cdR a b 11) ((a * a + b * b) / (cdR a b 11)) (fiR a b (cdR a b 11) 25) x y))) (ZS_at _ _ _ (by omega)) ?_
            refine lv_iload hx hb dX5_cell_219 (lv_at hl 7 rfl) ?_
            refine lv_iload hx hb dX5_cell_221 (lv_at hl 7 rfl) ?_
            refine z_imul hx hb dX5_cell_223 ?_
            refine lv_iload hx hb dX5_cell_224 (lv_at hl 6 rfl) ?_
            refine lv_iload hx hb dX5_cell_226 (lv_at hl 6 rfl) ?_
            refine z_imul hx hb dX5_cell_228 ?_
            refine z_iadd hx hb dX5_cell_229 ?_
            refine z_callS (G := G) (As := [.int (zI ((S1 (nmV (cdR a b 11) ((a * a + b * b) / (cdR a b 11)) (fiR a b (cdR a b 11) 25) x y)))), .int (zI (((x * x) + (y * y))))]) (rest := [.int (zI (((300 * nc) + (nmV (cdR a b 11) ((a * a + b * b) / (cdR a b 11)) (fiR a b (cdR a b 11) 25) x y)))), .ref m6]) hx hb hml hown hT hK (c_X5_less l G ((S1 (nmV (cdR a b 11) ((a * a + b * b) / (cdR a b 11)) (fiR a b (cdR a b 11) 25) x y))) (((x * x) + (y * y))) (by omega) (by omega)) kc_X5_76 ⟨Nat.le_of_ble_eq_true rfl, Nat.le_of_ble_eq_true rfl⟩ ⟨rfl, rfl⟩ ⟨Nat.le_of_ble_eq_true rfl, Nat.le_of_ble_eq_true rfl⟩ (hP.sub [] rfl) rfl hl.1 rfl (Nat.le_of_ble_eq_true rfl) dX5_cell_230 ?_
            refine z_iast (ws' := mdL G md ma mb mc mt m1 m2 m3 m4 m5 m6 m7 cd w h cnt most rch tl nc M Y C T (zu CA nc a) (zu CB nc b) (zu CN nc ((a * a) + (b * b))) (zu CG nc (cdR a b 11)) (zu CS nc (fiR a b (cdR a b 11) 25)) (zu (ZS Z (300 * nc) (a * a + b * b) S1) ((300 * nc) + (nmV (cdR a b 11) ((a * a + b * b) / (cdR a b 11)) (fiR a b (cdR a b 11) 25) x y)) (min (S1 (nmV (cdR a b 11) ((a * a + b * b) / (cdR a b 11)) (fiR a b (cdR a b 11) 25) x y)) ((x * x) + (y * y)))) K) hx hb hK hP hD hS 10 rfl (⟨by omega, by omega, by omega⟩) dX5_cell_233 rfl (fun H locs hP hD hS => ?_)
            rw [show (zu (ZS Z (300 * nc) (a * a + b * b) S1) ((300 * nc) + (nmV (cdR a b 11) ((a * a + b * b) / (cdR a b 11)) (fiR a b (cdR a b 11) 25) x y)) (min (S1 (nmV (cdR a b 11) ((a * a + b * b) / (cdR a b 11)) (fiR a b (cdR a b 11) 25) x y)) ((x * x) + (y * y)))) = (ZS Z (300 * nc) (a * a + b * b) (zu S1 (nmV (cdR a b 11) ((a * a + b * b) / (cdR a b 11)) (fiR a b (cdR a b 11) 25) x y) (min (S1 (nmV (cdR a b 11) ((a * a + b * b) / (cdR a b 11)) (fiR a b (cdR a b 11) 25) x y)) (x * x + y * y)))) from ZS_up _ _ _ (by omega)] at hP hD
            refine lv_iinc (v := zI (x + (1))) (lv' := [(6, .int (zI (x + (1)))), (7, .int (zI (((300 * nc) + (nmV (cdR a b 11) ((a * a + b * b) / (cdR a b 11)) (fiR a b (cdR a b 11) 25) x y))))), (0, .ref md), (1, .int (zI (a))), (2, .int (zI (b))), (3, .int (zI (nc))), (4, .int (zI ((a * a + b * b)))), (5, .int (zI (y)))]) hx hb dX5_cell_234 hl (k := 7) rfl (zI_add _ _) (by decide) rfl (fun ls hl => ?_)
            refine z_goto (tgt := 182) hx hb dX5_cell_237 (by decide) ?_
            exact ih182 ((zu S1 (nmV (cdR a b 11) ((a * a + b * b) / (cdR a b 11)) (fiR a b (cdR a b 11) 25) x y) (min (S1 (nmV (cdR a b 11) ((a * a + b * b) / (cdR a b 11)) (fiR a b (cdR a b 11) 25) x y)) (x * x + y * y))), x + 1, ls) _ _ ⟨⟨by dsimp only; omega, isM_step hJ2 (by omega) (by omega)⟩, lv_sub hl [2, 3, 4, 5, 6, 7, 0] rfl⟩ (by dsimp only; omega) hP hD hS
      · skip
        refine lv_aload_n hx hb dX5_cell_146 rfl (lv_at hl 0 rfl) ?_
        refine gf_X5_50 hx hb hT hown hK hP 0 rfl rfl dX5_cell_147 ?_
        refine z_sipush hx hb dX5_cell_150 (by decide +kernel) ?_
        refine lv_iload_n hx hb dX5_cell_153 rfl (lv_at hl 3 rfl) ?_
        refine z_imul hx hb dX5_cell_154 ?_
        refine lv_iload hx hb dX5_cell_155 (lv_at hl 5 rfl) ?_
        refine z_iadd hx hb dX5_cell_157 ?_
        refine lv_iload hx hb dX5_cell_158 (lv_at hl 4 rfl) ?_
        refine z_iast (ws' := mdL G md ma mb mc mt m1 m2 m3 m4 m5 m6 m7 cd w h cnt most rch tl nc M Y C T (zu CA nc a) (zu CB nc b) (zu CN nc ((a * a) + (b * b))) (zu CG nc (cdR a b 11)) (zu CS nc (fiR a b (cdR a b 11) 25)) (zu (ZS Z (300 * nc) i0 (fun _ => (a * a + b * b))) ((300 * nc) + i0) (a * a + b * b)) K) hx hb hK hP hD hS 10 rfl (⟨by omega, by omega, by omega⟩) dX5_cell_160 rfl (fun H locs hP hD hS => ?_)
        rw [show (zu (ZS Z (300 * nc) i0 (fun _ => (a * a + b * b))) ((300 * nc) + i0) (a * a + b * b)) = (ZS Z (300 * nc) (i0 + 1) (fun _ => (a * a + b * b))) from ZS_s Z (300 * nc) (fun _ => (a * a + b * b)) (by omega)] at hP hD
        refine lv_iinc (v := zI (i0 + (1))) (lv' := [(5, .int (zI (i0 + (1)))), (0, .ref md), (1, .int (zI (a))), (2, .int (zI (b))), (3, .int (zI (nc))), (4, .int (zI ((a * a + b * b))))]) hx hb dX5_cell_161 hl (k := 5) rfl (zI_add _ _) (by decide) rfl (fun ls hl => ?_)
        refine z_goto (tgt := 139) hx hb dX5_cell_164 (by decide) ?_
        exact ih139 (i0 + 1, ls) _ _ ⟨by refine ⟨?_, ?_⟩ <;> omega, lv_sub hl [1, 2, 3, 4, 5, 0] rfl⟩ (by omega) hP hD hS
    · skip
      refine z_iconst hx hb dX5_cell_63 ?_
      have hQ : mdL G md ma mb mc mt m1 m2 m3 m4 m5 m6 m7 (cCel a b nc) w h cnt most rch tl (if cCel a b nc = 0 then nc + 1 else nc) M Y C T (if cCel a b nc = 0 then (zu CA nc a) else CA) (if cCel a b nc = 0 then (zu CB nc b) else CB) (if cCel a b nc = 0 then (zu CN nc (a * a + b * b)) else CN) (if cCel a b nc = 0 then (zu CG nc (cdR a b 11)) else CG) (if cCel a b nc = 0 then (zu CS nc (fiR a b (cdR a b 11) 25)) else CS) (if cCel a b nc = 0 then (ZS Z (300 * nc) (a * a + b * b) (fun _ => 0)) else Z) (if cCel a b nc = 0 then (ZS K (300 * nc) (a * a + b * b) (rkF (fun _ => 0) (a * a + b * b))) else K) = mdL G md ma mb mc mt m1 m2 m3 m4 m5 m6 m7 cd w h cnt most rch tl nc M Y C T CA CB CN CG CS Z K := by rw [← ecd] <;> (by_cases hc0 : cd = 0) <;> first | (exfalso; omega) | (simp only [if_pos hc0]; done) | (simp only [if_neg hc0]; done) | rfl
      exact z_wri (fun _ => 0) hx hb hr hlocks hK (by rw [hQ]; exact hP) (by rw [hQ]; exact hD) hS (fun h9 => by rw [← ecd] at h9; omega) (by rw [← ecd] <;> (by_cases hc0 : cd = 0) <;> first | (exfalso; omega) | (rw [if_pos hc0]; done) | (rw [if_neg hc0]; done)) dX5_cell_64
  intro J53
  refine lv_iload_n hx hb dX5_cell_1 rfl (lv_at hl 1 rfl) ?_
  refine z_if_lt (tgt := 23) hx hb dX5_cell_2 (by decide) (by omega) (fun h2 => ?_) (fun h2 => ?_)
  · skip
    refine z_iconst hx hb dX5_cell_23 ?_
    refine z_goto (tgt := 53) hx hb dX5_cell_24 (by decide) ?_
    refine z_top (cCel a b nc) (by unfold cCel; (repeat' split) <;> omega) ?_
    exact J53 (ls) _ _ ⟨trivial, lv_sub hl [0, 1, 2] rfl⟩ hP hD hS
  · skip
    refine lv_iload_n hx hb dX5_cell_5 rfl (lv_at hl 1 rfl) ?_
    refine z_bipush hx hb dX5_cell_6 (by decide +kernel) ?_
    refine z_icmp_gt (tgt := 23) hx hb dX5_cell_8 (by decide) (by omega) (by omega) (fun h8 => ?_) (fun h8 => ?_)
    · skip
      refine z_iconst hx hb dX5_cell_23 ?_
      refine z_goto (tgt := 53) hx hb dX5_cell_24 (by decide) ?_
      refine z_top (cCel a b nc) (by unfold cCel; (repeat' split) <;> omega) ?_
      exact J53 (ls) _ _ ⟨trivial, lv_sub hl [0, 1, 2] rfl⟩ hP hD hS
    · skip
      refine lv_iload_n hx hb dX5_cell_11 rfl (lv_at hl 2 rfl) ?_
      refine z_bipush hx hb dX5_cell_12 (by decide +kernel) ?_
      refine z_icmp_lt (tgt := 23) hx hb dX5_cell_14 (by decide) (by omega) (by omega) (fun h14 => ?_) (fun h14 => ?_)
      · skip
        refine z_iconst hx hb dX5_cell_23 ?_
        refine z_goto (tgt := 53) hx hb dX5_cell_24 (by decide) ?_
        refine z_top (cCel a b nc) (by unfold cCel; (repeat' split) <;> omega) ?_
        exact J53 (ls) _ _ ⟨trivial, lv_sub hl [0, 1, 2] rfl⟩ hP hD hS
      · skip
        refine lv_iload_n hx hb dX5_cell_17 rfl (lv_at hl 2 rfl) ?_
        refine z_bipush hx hb dX5_cell_18 (by decide +kernel) ?_
        refine z_icmp_le (tgt := 27) hx hb dX5_cell_20 (by decide) (by omega) (by omega) (fun h20 => ?_) (fun h20 => ?_)
        · skip
          refine lv_iload_n hx hb dX5_cell_27 rfl (lv_at hl 1 rfl) ?_
          refine z_if_ne (tgt := 39) hx hb dX5_cell_28 (by decide) (by omega) (fun h28 => ?_) (fun h28 => ?_)
          · skip
            refine lv_aload_n hx hb dX5_cell_39 rfl (lv_at hl 0 rfl) ?_
            refine gf_X5_119 hx hb hT hown hK hP 0 rfl rfl dX5_cell_40 ?_
            refine z_bipush hx hb dX5_cell_43 (by decide +kernel) ?_
            refine z_icmp_ne (tgt := 52) hx hb dX5_cell_45 (by decide) (by omega) (by omega) (fun h45 => ?_) (fun h45 => ?_)
            · skip
              refine z_iconst hx hb dX5_cell_52 ?_
              refine z_top (cCel a b nc) (by unfold cCel; (repeat' split) <;> omega) ?_
              exact J53 (ls) _ _ ⟨trivial, lv_sub hl [0, 1, 2] rfl⟩ hP hD hS
            · skip
              refine z_iconst hx hb dX5_cell_48 ?_
              refine z_goto (tgt := 53) hx hb dX5_cell_49 (by decide) ?_
              refine z_top (cCel a b nc) (by unfold cCel; (repeat' split) <;> omega) ?_
              exact J53 (ls) _ _ ⟨trivial, lv_sub hl [0, 1, 2] rfl⟩ hP hD hS
          · skip
            refine lv_iload_n hx hb dX5_cell_31 rfl (lv_at hl 2 rfl) ?_
            refine z_if_ne (tgt := 39) hx hb dX5_cell_32 (by decide) (by omega) (fun h32 => ?_) (fun h32 => ?_)
            · skip
              refine lv_aload_n hx hb dX5_cell_39 rfl (lv_at hl 0 rfl) ?_
              refine gf_X5_119 hx hb hT hown hK hP 0 rfl rfl dX5_cell_40 ?_
              refine z_bipush hx hb dX5_cell_43 (by decide +kernel) ?_
              refine z_icmp_ne (tgt := 52) hx hb dX5_cell_45 (by decide) (by omega) (by omega) (fun h45 => ?_) (fun h45 => ?_)
              · skip
                refine z_iconst hx hb dX5_cell_52 ?_
                refine z_top (cCel a b nc) (by unfold cCel; (repeat' split) <;> omega) ?_
                exact J53 (ls) _ _ ⟨trivial, lv_sub hl [0, 1, 2] rfl⟩ hP hD hS
              · skip
                refine z_iconst hx hb dX5_cell_48 ?_
                refine z_goto (tgt := 53) hx hb dX5_cell_49 (by decide) ?_
                refine z_top (cCel a b nc) (by unfold cCel; (repeat' split) <;> omega) ?_
                exact J53 (ls) _ _ ⟨trivial, lv_sub hl [0, 1, 2] rfl⟩ hP hD hS
            · skip
              refine z_iconst hx hb dX5_cell_35 ?_
              refine z_goto (tgt := 53) hx hb dX5_cell_36 (by decide) ?_
              refine z_top (cCel a b nc) (by unfold cCel; (repeat' split) <;> omega) ?_
              exact J53 (ls) _ _ ⟨trivial, lv_sub hl [0, 1, 2] rfl⟩ hP hD hS
        · skip
          refine z_iconst hx hb dX5_cell_23 ?_
          refine z_goto (tgt := 53) hx hb dX5_cell_24 (by decide) ?_
          refine z_top (cCel a b nc) (by unfold cCel; (repeat' split) <;> omega) ?_
          exact J53 (ls) _ _ ⟨trivial, lv_sub hl [0, 1, 2] rfl⟩ hP hD hS

/-! ===== planAgain, makePlan ===== -/
def oSp (g : Nat → Int64) : Nat → Int32 := fun t => gt g t 0 - zfull g (nI t) (gN g 3)
def oOp (g : Nat → Int64) : Nat → Int32 := fun f => if nI (gN g 4) < gf g f 3 then nI 0 else nI 1
def zSp (g : Nat → Int64) (old : Nat → Int32) (tt : Nat) (x : Int32) : Nat → Int32 := zw1 (zcn (oSp g) old (gN g 2)) tt (zcn (oSp g) old (gN g 2) tt + x)
def zQ0 (M : zMem) (a : Nat) (g : Nat → Int64) (tt : Nat) (x : Int32) : zPs := (0, lN 0, zI M (a + 1), zI M (a + 2), zI M (a + 3), zcn (oOp g) (zI M (a + 5)) (gN g 3), zSp g (zI M (a + 6)) tt x)
section
variable {l : Launch} {G : zG}
theorem w_X3_planAgain_67 (hl : l.stackTraces = false) {M : zMem} {a s : Nat} {g : Nat → Int64} {p : Nat → Nat} (ha : nSh M a) (h : rSt M s g p) (hd : a + 7 ≤ s ∨ s + 77 ≤ a) {tt : Nat} (htt : tt < gN g 2) (x : Int32) : ∀ (k : Nat) (i : Nat), i ≤ gN g 3 → gN g 3 - i < k → zS l G mX3_planAgain 2 80 0 0 67 [some (.ref a), some (.ref s), some (.int (nI tt)), some (.int (x)), some (.int (nI i))] [] (zsA (zsA (zsJ (zsI M a 0 (nI 0)) a 1 (lN 0)) (a + 6) (zSp g (zI M (a + 6)) tt x)) (a + 5) (zcn (oOp g) (zI M (a + 5)) i)) (zPQ M a none (zJ M (a + 4)) (zPln g (zJ M (a + 4)) 20 (zQ0 M a g tt x))) := by
  intro k
  induction k with
  | zero => intros; omega
  | succ k ih =>
    intro i hi hk
    have hF := h.b.2.2.1.2
    have hT := h.b.2.1.2
    have eA : zag M (zsA (zsA (zsJ (zsI M a 0 (nI 0)) a 1 (lN 0)) (a + 6) (zSp g (zI M (a + 6)) tt x)) (a + 5) (zcn (oOp g) (zI M (a + 5)) i)) (fun c => c < a ∨ a + 7 ≤ c) := ((((zag_I _ _ _ _).mono fun c hc => by omega).trans ((zag_J _ _ _ _).mono fun c hc => by omega)).trans ((zag_A _ _ _).mono fun c hc => by omega)).trans ((zag_A _ _ _).mono fun c hc => by omega)
    have h2 : rSt (zsA (zsA (zsJ (zsI M a 0 (nI 0)) a 1 (lN 0)) (a + 6) (zSp g (zI M (a + 6)) tt x)) (a + 5) (zcn (oOp g) (zI M (a + 5)) i)) s g p := h.keep (eA.mono fun b hb => by omega)
    refine s_iload (zdk hX3_planAgain_0 39 rfl) rfl ?_
    refine s_aload_n (zdk hX3_planAgain_0 40 rfl) rfl ?_
    refine s_getI (zdk hX3_planAgain_0 41 rfl) fw_X3_52 rfl (h2.K) ?_
    refine s_topi (b := nI (gN g 3)) (h2.v4) ?_
    refine s_icmp_ge 111 (zdk hX3_planAgain_0 42 rfl) (by decide) (fun c73 => ?_) (fun c73 => ?_)
    · obtain rfl : i = (gN g 3) := by have := nle c73 (by omega) (by omega); omega
      refine s_iconstv (v := nI 0) (zdk hX3_planAgain_1 0 rfl) zc_iconst_0 ?_
      refine s_istore (zdk hX3_planAgain_1 1 rfl) (Nat.le_of_ble_eq_true rfl) ?_
      refine s_ls (ls' := [some (.ref a), some (.ref s), some (.int (nI tt)), some (.int (x)), some (.int (nI 0))]) rfl ?_
      have hq : rPl (zsA (zsA (zsJ (zsI M a 0 (nI 0)) a 1 (lN 0)) (a + 6) (zSp g (zI M (a + 6)) tt x)) (a + 5) (zcn (oOp g) (zI M (a + 5)) (gN g 3))) a (zJ M (a + 4)) (zQ0 M a g tt x) := by
        refine ⟨ha, ?_, ?_, ?_, ?_, ?_, ?_, ?_, ?_⟩
        · rw [zI_An _ _ (show a ≠ a + 5 by omega), zI_An _ _ (show a ≠ a + 6 by omega), zI_J, zI_Ie, zw1_e]; rfl
        · rw [zJ_A, zJ_A, zJ_Jw, zwL_e]; rfl
        · rw [zI_An _ _ (show a + 1 ≠ a + 5 by omega), zI_An _ _ (show a + 1 ≠ a + 6 by omega), zI_J, zI_In (by omega)]; rfl
        · rw [zI_An _ _ (show a + 2 ≠ a + 5 by omega), zI_An _ _ (show a + 2 ≠ a + 6 by omega), zI_J, zI_In (by omega)]; rfl
        · rw [zI_An _ _ (show a + 3 ≠ a + 5 by omega), zI_An _ _ (show a + 3 ≠ a + 6 by omega), zI_J, zI_In (by omega)]; rfl
        · rw [zJ_A, zJ_A, zJ_Jn (by omega)]; rfl
        · rw [zI_A]; rfl
        · rw [zI_An _ _ (show a + 6 ≠ a + 5 by omega), zI_A]; rfl
      exact w_X3_planAgain_114 hl h hd (nI tt) x 21 _ 0 _ eA hq rfl (by omega) (by omega)
    · have hi2 : i < (gN g 3) := nlt c73 (by omega) (by omega)
      refine s_aload_n (zdk hX3_planAgain_0 43 rfl) rfl ?_
      refine s_getR (zdk hX3_planAgain_0 44 rfl) fw_X3_33 rfl (ha.1) (ha.2.2.2.2.2.1.1) ?_
      refine s_iload (zdk hX3_planAgain_0 45 rfl) rfl ?_
      refine s_aload_n (zdk hX3_planAgain_0 46 rfl) rfl ?_
      refine s_getR (zdk hX3_planAgain_0 47 rfl) fw_X3_80 rfl (h2.K) (h2.r6) ?_
      refine s_iload (zdk hX3_planAgain_0 48 rfl) rfl ?_
      refine s_aaloadN (N := 20) (j := i) (zdk hX3_planAgain_0 49 rfl) (h2.fK) (by decide) (h2.fN) (h2.fL hi2) (by decide) (h2.rR hi2) ?_
      refine s_aload_n (zdk hX3_planAgain_0 50 rfl) rfl ?_
      refine s_getI (zdk hX3_planAgain_0 51 rfl) fw_X3_84 rfl (h2.K) ?_
      refine s_topi (b := nI (gN g 4)) (h2.v2) ?_
      refine s_callV0 (ci := 0) [.int (nI (gN g 4))] (zdk hX3_planAgain_0 52 rfl) cw_X3_87 ((h2.rS hi2).1) (by decide) rfl rfl rfl (Nat.le_of_ble_eq_true rfl) (by decide) (c_X0_isPinnedIn hl (h2.rS hi2) _) ?_
      refine s_topi (b := (if nI (gN g 4) < gf g i 3 then nI 1 else nI 0)) (by rw [h2.f4 hi2]) ?_
      refine s_if_ne 103 (zdk hX3_planAgain_0 53 rfl) (by decide) (fun c96 => ?_) (fun c96 => ?_)
      · have e1 : oOp g i = nI 0 := if_pos (Classical.byContradiction fun q => c96 (if_neg q))
        refine s_iconstv (v := nI 0) (zdk hX3_planAgain_0 56 rfl) zc_iconst_0 ?_
        refine s_bastoreN (N := 20) (j := i) (zdk hX3_planAgain_0 57 rfl) (ha.2.2.2.2.2.2.2.2.2.2.2.2.2.2.1) (ha.2.2.2.2.2.2.2.2.2.2.2.2.2.2.2.1) (by omega) (by decide) (by decide) ?_
        refine s_mem (M' := (zsA (zsA (zsJ (zsI M a 0 (nI 0)) a 1 (lN 0)) (a + 6) (zSp g (zI M (a + 6)) tt x)) (a + 5) (zcn (oOp g) (zI M (a + 5)) (i + 1)))) ((by rw [← e1]; exact (zsA_1 _ _ _ _ _).trans (zsA_g (zcn_1 _ _ _)))) ?_
        refine s_iinc (r := nI (i + 1)) (zdk hX3_planAgain_0 58 rfl) (Nat.le_of_ble_eq_true rfl) rfl (nI_1 i) ?_
        refine s_ls (ls' := [some (.ref a), some (.ref s), some (.int (nI tt)), some (.int (x)), some (.int (nI (i + 1)))]) rfl ?_
        refine s_goto 67 (zdk hX3_planAgain_0 59 rfl) (by decide) ?_
        exact ih (i + 1) (by omega) (by omega)
      · have e1 : oOp g i = nI 1 := if_neg (fun q => by rw [if_pos q] at c96; exact absurd c96 (by decide))
        refine s_iconstv (v := nI 1) (zdk hX3_planAgain_0 54 rfl) zc_iconst_1 ?_
        refine s_goto 104 (zdk hX3_planAgain_0 55 rfl) (by decide) ?_
        refine s_bastoreN (N := 20) (j := i) (zdk hX3_planAgain_0 57 rfl) (ha.2.2.2.2.2.2.2.2.2.2.2.2.2.2.1) (ha.2.2.2.2.2.2.2.2.2.2.2.2.2.2.2.1) (by omega) (by decide) (by decide) ?_
        refine s_mem (M' := (zsA (zsA (zsJ (zsI M a 0 (nI 0)) a 1 (lN 0)) (a + 6) (zSp g (zI M (a + 6)) tt x)) (a + 5) (zcn (oOp g) (zI M (a + 5)) (i + 1)))) ((by rw [← e1]; exact (zsA_1 _ _ _ _ _).trans (zsA_g (zcn_1 _ _ _)))) ?_
        refine s_iinc (r := nI (i + 1)) (zdk hX3_planAgain_0 58 rfl) (Nat.le_of_ble_eq_true rfl) rfl (nI_1 i) ?_
        refine s_ls (ls' := [some (.ref a), some (.ref s), some (.int (nI tt)), some (.int (x)), some (.int (nI (i + 1)))]) rfl ?_
        refine s_goto 67 (zdk hX3_planAgain_0 59 rfl) (by decide) ?_
        exact ih (i + 1) (by omega) (by omega)
theorem w_X3_planAgain_13 (hl : l.stackTraces = false) {M : zMem} {a s : Nat} {g : Nat → Int64} {p : Nat → Nat} (ha : nSh M a) (h : rSt M s g p) (hd : a + 7 ≤ s ∨ s + 77 ≤ a) {tt : Nat} (htt : tt < gN g 2) (x : Int32) : ∀ (k : Nat) (i : Nat), i ≤ gN g 2 → gN g 2 - i < k → zS l G mX3_planAgain 2 80 0 0 13 [some (.ref a), some (.ref s), some (.int (nI tt)), some (.int (x)), some (.int (nI i))] [] (zsA (zsJ (zsI M a 0 (nI 0)) a 1 (lN 0)) (a + 6) (zcn (oSp g) (zI M (a + 6)) i)) (zPQ M a none (zJ M (a + 4)) (zPln g (zJ M (a + 4)) 20 (zQ0 M a g tt x))) := by
  intro k
  induction k with
  | zero => intros; omega
  | succ k ih =>
    intro i hi hk
    have hF := h.b.2.2.1.2
    have hT := h.b.2.1.2
    have eA : zag M (zsA (zsJ (zsI M a 0 (nI 0)) a 1 (lN 0)) (a + 6) (zcn (oSp g) (zI M (a + 6)) i)) (fun c => c < a ∨ a + 7 ≤ c) := (((zag_I _ _ _ _).mono fun c hc => by omega).trans ((zag_J _ _ _ _).mono fun c hc => by omega)).trans ((zag_A _ _ _).mono fun c hc => by omega)
    have h2 : rSt (zsA (zsJ (zsI M a 0 (nI 0)) a 1 (lN 0)) (a + 6) (zcn (oSp g) (zI M (a + 6)) i)) s g p := h.keep (eA.mono fun b hb => by omega)
    refine s_iload (zdk hX3_planAgain_0 8 rfl) rfl ?_
    refine s_aload_n (zdk hX3_planAgain_0 9 rfl) rfl ?_
    refine s_getI (zdk hX3_planAgain_0 10 rfl) fw_X3_64 rfl (h2.K) ?_
    refine s_topi (b := nI (gN g 2)) (h2.v3) ?_
    refine s_icmp_ge 54 (zdk hX3_planAgain_0 11 rfl) (by decide) (fun c19 => ?_) (fun c19 => ?_)
    · obtain rfl : i = (gN g 2) := by have := nle c19 (by omega) (by omega); omega
      refine s_aload_n (zdk hX3_planAgain_0 29 rfl) rfl ?_
      refine s_getR (zdk hX3_planAgain_0 30 rfl) fw_X3_37 rfl (ha.1) (ha.2.2.2.2.2.1.2) ?_
      refine s_iload_n (zdk hX3_planAgain_0 31 rfl) rfl ?_
      refine s_dup2ir (zdk hX3_planAgain_0 32 rfl) ?_
      refine s_ialoadN (N := 4) (j := tt) (zdk hX3_planAgain_0 33 rfl) (ha.2.2.2.2.2.2.2.2.2.2.2.2.2.2.2.2.1) (ha.2.2.2.2.2.2.2.2.2.2.2.2.2.2.2.2.2) (by omega) (by decide) ?_
      refine s_topi (b := zcn (oSp g) (zI M (a + 6)) (gN g 2) tt) (congrFun (zI_A _ _ _) tt) ?_
      refine s_iload_n (zdk hX3_planAgain_0 34 rfl) rfl ?_
      refine s_iadd (zdk hX3_planAgain_0 35 rfl) ?_
      refine s_iastoreN (N := 4) (j := tt) (zdk hX3_planAgain_0 36 rfl) (ha.2.2.2.2.2.2.2.2.2.2.2.2.2.2.2.2.1) (ha.2.2.2.2.2.2.2.2.2.2.2.2.2.2.2.2.2) (by omega) (by decide) ?_
      refine s_mem (M' := (zsA (zsJ (zsI M a 0 (nI 0)) a 1 (lN 0)) (a + 6) (zSp g (zI M (a + 6)) tt x))) ((zsA_1 _ _ _ _ _)) ?_
      refine s_iconstv (v := nI 0) (zdk hX3_planAgain_0 37 rfl) zc_iconst_0 ?_
      refine s_istore (zdk hX3_planAgain_0 38 rfl) (Nat.le_of_ble_eq_true rfl) ?_
      refine s_ls (ls' := [some (.ref a), some (.ref s), some (.int (nI tt)), some (.int (x)), some (.int (nI 0))]) rfl ?_
      have hq := w_X3_planAgain_67 (l := l) (G := G) hl ha h hd htt x (gN g 3 + 1) 0 (by omega) (by omega)
      rw [zcn_0, show zI M (a + 5) = zI (zsA (zsJ (zsI M a 0 (nI 0)) a 1 (lN 0)) (a + 6) (zSp g (zI M (a + 6)) tt x)) (a + 5) from ((zI_An _ _ (show a + 5 ≠ a + 6 by omega)).trans (by rw [zI_J, zI_In (by omega)])).symm, zsA_id] at hq
      exact hq
    · have hi2 : i < (gN g 2) := nlt c19 (by omega) (by omega)
      refine s_aload_n (zdk hX3_planAgain_0 12 rfl) rfl ?_
      refine s_getR (zdk hX3_planAgain_0 13 rfl) fw_X3_37 rfl (ha.1) (ha.2.2.2.2.2.1.2) ?_
      refine s_iload (zdk hX3_planAgain_0 14 rfl) rfl ?_
      refine s_aload_n (zdk hX3_planAgain_0 15 rfl) rfl ?_
      refine s_getR (zdk hX3_planAgain_0 16 rfl) fw_X3_67 rfl (h2.K) (h2.r5) ?_
      refine s_iload (zdk hX3_planAgain_0 17 rfl) rfl ?_
      refine s_aaloadN (N := 4) (j := i) (zdk hX3_planAgain_0 18 rfl) (h2.tK) (by decide) (h2.tN) (h2.tL hi2) (by decide) (h2.tR hi2) ?_
      refine s_getR (zdk hX3_planAgain_0 19 rfl) fw_X3_71 rfl ((h2.tS hi2).1) ((h2.tS hi2).2.1) ?_
      refine s_iconstv (v := nI 0) (zdk hX3_planAgain_0 20 rfl) zc_iconst_0 ?_
      refine s_ialoadN (N := 5) (j := 0) (zdk hX3_planAgain_0 21 rfl) ((h2.tS hi2).2.2.2.1) ((h2.tS hi2).2.2.2.2.1) (by omega) (by decide) ?_
      refine s_topi (b := gt g i (0)) (h2.tk hi2 _ (by omega)) ?_
      refine s_aload_n (zdk hX3_planAgain_0 22 rfl) rfl ?_
      refine s_iload (zdk hX3_planAgain_0 23 rfl) rfl ?_
      refine s_callV0 (ci := 5) [.int (nI i)] (zdk hX3_planAgain_0 24 rfl) cw_X3_76 (h2.K) (by decide) rfl rfl rfl (Nat.le_of_ble_eq_true rfl) (by decide) (c_X5_sizeOn hl h2 _) ?_
      refine s_isub (zdk hX3_planAgain_0 25 rfl) ?_
      refine s_topi (b := oSp g i) (rfl) ?_
      refine s_iastoreN (N := 4) (j := i) (zdk hX3_planAgain_0 26 rfl) (ha.2.2.2.2.2.2.2.2.2.2.2.2.2.2.2.2.1) (ha.2.2.2.2.2.2.2.2.2.2.2.2.2.2.2.2.2) (by omega) (by decide) ?_
      refine s_mem (M' := (zsA (zsJ (zsI M a 0 (nI 0)) a 1 (lN 0)) (a + 6) (zcn (oSp g) (zI M (a + 6)) (i + 1)))) ((zsA_1 _ _ _ _ _).trans (zsA_g (zcn_1 _ _ _))) ?_
      refine s_iinc (r := nI (i + 1)) (zdk hX3_planAgain_0 27 rfl) (Nat.le_of_ble_eq_true rfl) rfl (nI_1 i) ?_
      refine s_ls (ls' := [some (.ref a), some (.ref s), some (.int (nI tt)), some (.int (x)), some (.int (nI (i + 1)))]) rfl ?_
      refine s_goto 13 (zdk hX3_planAgain_0 28 rfl) (by decide) ?_
      exact ih (i + 1) (by omega) (by omega)
theorem c_X3_planAgain (hl : l.stackTraces = false) {M : zMem} {a s : Nat} {g : Nat → Int64} {p : Nat → Nat} (ha : nSh M a) (h : rSt M s g p) (hd : a + 7 ≤ s ∨ s + 77 ≤ a) {tt : Nat} (htt : tt < gN g 2) (x : Int32) : zCm l G mX3_planAgain 2 80 0 0 [.ref a, .ref s, .int (nI tt), .int x] M (zPQ M a none (zJ M (a + 4)) (zPln g (zJ M (a + 4)) 20 (zQ0 M a g tt x))) := by
  refine zCm.of0 (ls0 := [some (.ref a), some (.ref s), some (.int (nI tt)), some (.int (x)), none]) (by decide +kernel) rfl hl rfl (Nat.le_of_ble_eq_true rfl) (fun v' M' q => q.2.1.1) (fun x M' q => by cases q.1) ?_
  refine s_aload_n (zdk hX3_planAgain_0 0 rfl) rfl ?_
  refine s_iconstv (v := nI 0) (zdk hX3_planAgain_0 1 rfl) zc_iconst_0 ?_
  refine s_putI (zdk hX3_planAgain_0 2 rfl) fw_X3_9 rfl pw_3_0 (ha.1) ?_
  refine s_aload_n (zdk hX3_planAgain_0 3 rfl) rfl ?_
  refine s_lconstv (v := lN 0) (zdk hX3_planAgain_0 4 rfl) rfl ?_
  refine s_putJ (zdk hX3_planAgain_0 5 rfl) fw_X3_15 rfl pw_3_1 (ha.1) ?_
  refine s_iconstv (v := nI 0) (zdk hX3_planAgain_0 6 rfl) zc_iconst_0 ?_
  refine s_istore (zdk hX3_planAgain_0 7 rfl) (Nat.le_of_ble_eq_true rfl) ?_
  refine s_ls (ls' := [some (.ref a), some (.ref s), some (.int (nI tt)), some (.int (x)), some (.int (nI 0))]) rfl ?_
  have hq := w_X3_planAgain_13 (l := l) (G := G) hl ha h hd htt x (gN g 2 + 1) 0 (by omega) (by omega)
  have e0 : (zsA (zsJ (zsI M a 0 (nI 0)) a 1 (lN 0)) (a + 6) (zcn (oSp g) (zI M (a + 6)) 0)) = (zsJ (zsI M a 0 (nI 0)) a 1 (lN 0)) := by rw [zcn_0, show zI M (a + 6) = zI (zsJ (zsI M a 0 (nI 0)) a 1 (lN 0)) (a + 6) by rw [zI_J, zI_In (by omega)], zsA_id]
  rw [e0] at hq
  exact hq
def zgA (g : Nat → Int64) (n : Nat) (r : Nat → Int64) : Nat → Nat → Int64
  | 0 => r
  | f + 1 => zgr (zgA g n r f) (oGn g f n) f (gN g 2)
theorem w_X3_makePlan_2 (hl : l.stackTraces = false) {M : zMem} {a s : Nat} {g : Nat → Int64} {p : Nat → Nat} (ha : nSh M a) (h : rSt M s g p) (hd : a + 7 ≤ s ∨ s + 77 ≤ a) {n : Nat} (hn : n ≤ 24) (ht2 : 0 < gN g 2) : ∀ (k : Nat) (i : Nat), i ≤ gN g 3 → gN g 3 - i < k → zS l G mX3_makePlan 3 110 0 0 2 [some (.ref a), some (.ref s), some (.int (nI n)), some (.int (nI i))] [] (zsL M (a + 4) (zgA g n (zJ M (a + 4)) i)) (zPQ M a none (zgA g n (zJ M (a + 4)) (gN g 3)) (zPln g (zgA g n (zJ M (a + 4)) (gN g 3)) 20 (zQ0 M a g 0 (nI 0)))) := by
  intro k
  induction k with
  | zero => intros; omega
  | succ k ih =>
    intro i hi hk
    have hF := h.b.2.2.1.2
    have hT := h.b.2.1.2
    have eA : zag M (zsL M (a + 4) (zgA g n (zJ M (a + 4)) i)) (fun c => c < a ∨ a + 7 ≤ c) := ((zag_L _ _ _).mono fun c hc => by omega)
    have h2 : rSt (zsL M (a + 4) (zgA g n (zJ M (a + 4)) i)) s g p := h.keep (eA.mono fun b hb => by omega)
    refine s_iload_n (zdk hX3_makePlan 2 rfl) rfl ?_
    refine s_aload_n (zdk hX3_makePlan 3 rfl) rfl ?_
    refine s_getI (zdk hX3_makePlan 4 rfl) fw_X3_52 rfl (h2.K) ?_
    refine s_topi (b := nI (gN g 3)) (h2.v4) ?_
    refine s_icmp_ge 23 (zdk hX3_makePlan 5 rfl) (by decide) (fun c7 => ?_) (fun c7 => ?_)
    · obtain rfl : i = (gN g 3) := by have := nle c7 (by omega) (by omega); omega
      refine s_aload_n (zdk hX3_makePlan 13 rfl) rfl ?_
      refine s_aload_n (zdk hX3_makePlan 14 rfl) rfl ?_
      refine s_iconstv (v := nI 0) (zdk hX3_makePlan 15 rfl) zc_iconst_0 ?_
      refine s_iconstv (v := nI 0) (zdk hX3_makePlan 16 rfl) zc_iconst_0 ?_
      refine s_callV1 (ci := 3) [.ref s, .int (nI 0), .int (nI 0)] (zdk hX3_makePlan 17 rfl) cw_X3_61 (ha.1) (by decide) rfl rfl rfl (Nat.le_of_ble_eq_true rfl) (by decide) (c_X3_planAgain hl (show nSh (zsL M (a + 4) (zgA g n (zJ M (a + 4)) (gN g 3))) a from ha) h2 hd ht2 (nI 0)) ?_
      intro v2 M2 q2
      obtain ⟨q3, e2, hq⟩ := q2
      cases q3
      refine s_return (zdk hX3_makePlan 18 rfl) rfl ?_
      have e4 : zJ (zsL M (a + 4) (zgA g n (zJ M (a + 4)) (gN g 3))) (a + 4) = (zgA g n (zJ M (a + 4)) (gN g 3)) := zJ_Le
      rw [e4] at hq
      exact ⟨rfl, eA.trans e2, hq⟩
    · have hi2 : i < (gN g 3) := nlt c7 (by omega) (by omega)
      refine s_aload_n (zdk hX3_makePlan 6 rfl) rfl ?_
      refine s_aload_n (zdk hX3_makePlan 7 rfl) rfl ?_
      refine s_iload_n (zdk hX3_makePlan 8 rfl) rfl ?_
      refine s_iload_n (zdk hX3_makePlan 9 rfl) rfl ?_
      refine s_callV0 (ci := 3) [.ref s, .int (nI i), .int (nI n)] (zdk hX3_makePlan 10 rfl) cw_X3_57 (ha.1) (by decide) rfl rfl rfl (Nat.le_of_ble_eq_true rfl) (by decide) (c_X3_findGains hl (show nSh (zsL M (a + 4) (zgA g n (zJ M (a + 4)) i)) a from ha) h2 hd hi2 hn) ?_
      refine s_mem (M' := (zsL M (a + 4) (zgA g n (zJ M (a + 4)) (i + 1)))) (by rw [zsL_zsL, zJ_Le]; rfl) ?_
      refine s_iinc (r := nI (i + 1)) (zdk hX3_makePlan 11 rfl) (Nat.le_of_ble_eq_true rfl) rfl (nI_1 i) ?_
      refine s_ls (ls' := [some (.ref a), some (.ref s), some (.int (nI n)), some (.int (nI (i + 1)))]) rfl ?_
      refine s_goto 2 (zdk hX3_makePlan 12 rfl) (by decide) ?_
      exact ih (i + 1) (by omega) (by omega)
theorem c_X3_makePlan (hl : l.stackTraces = false) {M : zMem} {a s : Nat} {g : Nat → Int64} {p : Nat → Nat} (ha : nSh M a) (h : rSt M s g p) (hd : a + 7 ≤ s ∨ s + 77 ≤ a) {n : Nat} (hn : n ≤ 24) (ht2 : 0 < gN g 2) : zCm l G mX3_makePlan 3 110 0 0 [.ref a, .ref s, .int (nI n)] M (zPQ M a none (zgA g n (zJ M (a + 4)) (gN g 3)) (zPln g (zgA g n (zJ M (a + 4)) (gN g 3)) 20 (zQ0 M a g 0 (nI 0)))) := by
  refine zCm.of0 (ls0 := [some (.ref a), some (.ref s), some (.int (nI n)), none]) (by decide +kernel) rfl hl rfl (Nat.le_of_ble_eq_true rfl) (fun v' M' q => q.2.1.1) (fun x M' q => by cases q.1) ?_
  refine s_iconstv (v := nI 0) (zdk hX3_makePlan 0 rfl) zc_iconst_0 ?_
  refine s_istore_n (zdk hX3_makePlan 1 rfl) (Nat.le_of_ble_eq_true rfl) ?_
  refine s_ls (ls' := [some (.ref a), some (.ref s), some (.int (nI n)), some (.int (nI 0))]) rfl ?_
  have hq := w_X3_makePlan_2 (l := l) (G := G) hl ha h hd hn ht2 (gN g 3 + 1) 0 (by omega) (by omega)
  rw [show (zsL M (a + 4) (zgA g n (zJ M (a + 4)) 0)) = M from zsL_id _ _] at hq
  exact hq
end

/-! ===== the planner: best tier, best move, best exchange ===== -/
theorem lcmp_le {a b : Int64} (h : lg_cmp a b ≤ 0) : a ≤ b := by
  unfold lg_cmp at h
  split at h
  · exact absurd h (by decide)
  · rename_i q; exact Int64.not_lt.mp q
theorem lcmp_gt {a b : Int64} (h : ¬ lg_cmp a b ≤ 0) : b < a := by
  unfold lg_cmp at h
  split at h
  · assumption
  · split at h
    · exact absurd (show (0 : Int32) ≤ 0 by decide) h
    · exact absurd (show (-1 : Int32) ≤ 0 by decide) h
def zbt (gn : Nat → Int64) (home : Int32) : Nat → Int32 × Int64
  | 0 => (home, lN 0)
  | t + 1 => if gn t ≤ (zbt gn home t).2 then zbt gn home t else (nI t, gn t)
/-- the best move: of one file's first tiers, of the first files -/
def zfT (g gn : Nat → Int64) (sp : Nat → Int32) (f : Nat) : Nat → zBt → zBt
  | 0, b => b
  | t + 1, b => if ¬ gn (f * 4 + t) ≤ (zfT g gn sp f t b).2.2.2 ∧ gf g f 0 ≤ sp t then (nI f, -1, nI t, gn (f * 4 + t)) else zfT g gn sp f t b
def zfF (g gn : Nat → Int64) (op sp : Nat → Int32) : Nat → zBt → zBt
  | 0, b => b
  | f + 1, b => if op f = 0 then zfF g gn op sp f b else zfT g gn sp f (gN g 2) (zfF g gn op sp f b)
section
variable {l : Launch} {G : zG}
theorem w_X3_bestTier_24 (hl : l.stackTraces = false) {M : zMem} {a s : Nat} {g : Nat → Int64} {p : Nat → Nat} (ha : nSh M a) (h : rSt M s g p) (hd : a + 7 ≤ s ∨ s + 77 ≤ a) {f n : Nat} (hf : f < gN g 3) (hn : n ≤ 24) : ∀ (k : Nat) (i : Nat), i ≤ gN g 2 → gN g 2 - i < k → zS l G mX3_bestTier 3 110 0 0 24 [some (.ref a), some (.ref s), some (.int (nI f)), some (.int (nI n)), some (.int ((zbt (oGn g f n) (nI (gN g (58 + 51 * f + 1))) i).1)), some (.long ((zbt (oGn g f n) (nI (gN g (58 + 51 * f + 1))) i).2)), none, some (.int (nI i))] [] (zsL M (a + 4) (zgr (zJ M (a + 4)) (oGn g f n) f (gN g 2))) (zD (some (.int (zbt (oGn g f n) (nI (gN g (58 + 51 * f + 1))) (gN g 2)).1)) (zsL M (a + 4) (zgr (zJ M (a + 4)) (oGn g f n) f (gN g 2)))) := by
  intro k
  induction k with
  | zero => intros; omega
  | succ k ih =>
    intro i hi hk
    have hF := h.b.2.2.1.2
    have hT := h.b.2.1.2
    have h2 : rSt (zsL M (a + 4) (zgr (zJ M (a + 4)) (oGn g f n) f (gN g 2))) s g p := h.keep ((zag_L _ _ _).mono fun b hb => by omega)
    refine s_iload (zdk hX3_bestTier 15 rfl) rfl ?_
    refine s_aload_n (zdk hX3_bestTier 16 rfl) rfl ?_
    refine s_getI (zdk hX3_bestTier 17 rfl) fw_X3_64 rfl (h2.K) ?_
    refine s_topi (b := nI (gN g 2)) (h2.v3) ?_
    refine s_icmp_ge 73 (zdk hX3_bestTier 18 rfl) (by decide) (fun c30 => ?_) (fun c30 => ?_)
    · obtain rfl : i = (gN g 2) := by have := nle c30 (by omega) (by omega); omega
      refine s_iload (zdk hX3_bestTier 43 rfl) rfl ?_
      refine s_ireturn (zdk hX3_bestTier 44 rfl) rfl rfl ?_
      exact ⟨rfl, rfl⟩
    · have hi2 : i < (gN g 2) := nlt c30 (by omega) (by omega)
      refine s_aload_n (zdk hX3_bestTier 19 rfl) rfl ?_
      refine s_getR (zdk hX3_bestTier 20 rfl) fw_X3_29 rfl (ha.1) (ha.2.2.2.2.1) ?_
      refine s_iload_n (zdk hX3_bestTier 21 rfl) rfl ?_
      refine s_iconstv (v := nI 4) (zdk hX3_bestTier 22 rfl) zc_iconst_4 ?_
      refine s_imul (zdk hX3_bestTier 23 rfl) ?_
      refine s_topi (b := nI (f * 4)) (pk_mul _ _) ?_
      refine s_iload (zdk hX3_bestTier 24 rfl) rfl ?_
      refine s_iadd (zdk hX3_bestTier 25 rfl) ?_
      refine s_topi (b := nI (f * 4 + i)) (nI_add _ _) ?_
      refine s_laloadN (N := 80) (j := (f * 4 + i)) (zdk hX3_bestTier 26 rfl) (ha.2.2.2.2.2.2.2.2.2.2.2.2.1) (ha.2.2.2.2.2.2.2.2.2.2.2.2.2.1) (by omega) (by decide) ?_
      refine s_topl (b := oGn g f n i) ((congrFun zJ_Le _).trans (zgr_y _ hi2)) ?_
      refine s_lload (zdk hX3_bestTier 27 rfl) rfl ?_
      refine s_lcmp (zdk hX3_bestTier 28 rfl) ?_
      refine s_if_le 67 (zdk hX3_bestTier 29 rfl) (by decide) (fun c47 => ?_) (fun c47 => ?_)
      · have e1 : zbt (oGn g f n) (nI (gN g (58 + 51 * f + 1))) (i + 1) = zbt (oGn g f n) (nI (gN g (58 + 51 * f + 1))) i := if_pos (lcmp_le c47)
        refine s_ls (ls' := [some (.ref a), some (.ref s), some (.int (nI f)), some (.int (nI n)), some (.int ((zbt (oGn g f n) (nI (gN g (58 + 51 * f + 1))) (i + 1)).1)), some (.long ((zbt (oGn g f n) (nI (gN g (58 + 51 * f + 1))) (i + 1)).2)), none, some (.int (nI i))]) (by rw [e1]) ?_
        refine s_iinc (r := nI (i + 1)) (zdk hX3_bestTier 41 rfl) (Nat.le_of_ble_eq_true rfl) rfl (nI_1 i) ?_
        refine s_ls (ls' := [some (.ref a), some (.ref s), some (.int (nI f)), some (.int (nI n)), some (.int ((zbt (oGn g f n) (nI (gN g (58 + 51 * f + 1))) (i + 1)).1)), some (.long ((zbt (oGn g f n) (nI (gN g (58 + 51 * f + 1))) (i + 1)).2)), none, some (.int (nI (i + 1)))]) rfl ?_
        refine s_goto 24 (zdk hX3_bestTier 42 rfl) (by decide) ?_
        exact ih (i + 1) (by omega) (by omega)
      · have e1 : zbt (oGn g f n) (nI (gN g (58 + 51 * f + 1))) (i + 1) = (nI i, oGn g f n i) := if_neg (Int64.not_le.mpr (lcmp_gt c47))
        refine s_aload_n (zdk hX3_bestTier 30 rfl) rfl ?_
        refine s_getR (zdk hX3_bestTier 31 rfl) fw_X3_29 rfl (ha.1) (ha.2.2.2.2.1) ?_
        refine s_iload_n (zdk hX3_bestTier 32 rfl) rfl ?_
        refine s_iconstv (v := nI 4) (zdk hX3_bestTier 33 rfl) zc_iconst_4 ?_
        refine s_imul (zdk hX3_bestTier 34 rfl) ?_
        refine s_topi (b := nI (f * 4)) (pk_mul _ _) ?_
        refine s_iload (zdk hX3_bestTier 35 rfl) rfl ?_
        refine s_iadd (zdk hX3_bestTier 36 rfl) ?_
        refine s_topi (b := nI (f * 4 + i)) (nI_add _ _) ?_
        refine s_laloadN (N := 80) (j := (f * 4 + i)) (zdk hX3_bestTier 37 rfl) (ha.2.2.2.2.2.2.2.2.2.2.2.2.1) (ha.2.2.2.2.2.2.2.2.2.2.2.2.2.1) (by omega) (by decide) ?_
        refine s_topl (b := oGn g f n i) ((congrFun zJ_Le _).trans (zgr_y _ hi2)) ?_
        refine s_lstore (zdk hX3_bestTier 38 rfl) (Nat.le_of_ble_eq_true rfl) ?_
        refine s_ls (ls' := [some (.ref a), some (.ref s), some (.int (nI f)), some (.int (nI n)), some (.int ((zbt (oGn g f n) (nI (gN g (58 + 51 * f + 1))) i).1)), some (.long (oGn g f n i)), none, some (.int (nI i))]) rfl ?_
        refine s_iload (zdk hX3_bestTier 39 rfl) rfl ?_
        refine s_istore (zdk hX3_bestTier 40 rfl) (Nat.le_of_ble_eq_true rfl) ?_
        refine s_ls (ls' := [some (.ref a), some (.ref s), some (.int (nI f)), some (.int (nI n)), some (.int (nI i)), some (.long (oGn g f n i)), none, some (.int (nI i))]) rfl ?_
        refine s_ls (ls' := [some (.ref a), some (.ref s), some (.int (nI f)), some (.int (nI n)), some (.int ((zbt (oGn g f n) (nI (gN g (58 + 51 * f + 1))) (i + 1)).1)), some (.long ((zbt (oGn g f n) (nI (gN g (58 + 51 * f + 1))) (i + 1)).2)), none, some (.int (nI i))]) (by rw [e1]) ?_
        refine s_iinc (r := nI (i + 1)) (zdk hX3_bestTier 41 rfl) (Nat.le_of_ble_eq_true rfl) rfl (nI_1 i) ?_
        refine s_ls (ls' := [some (.ref a), some (.ref s), some (.int (nI f)), some (.int (nI n)), some (.int ((zbt (oGn g f n) (nI (gN g (58 + 51 * f + 1))) (i + 1)).1)), some (.long ((zbt (oGn g f n) (nI (gN g (58 + 51 * f + 1))) (i + 1)).2)), none, some (.int (nI (i + 1)))]) rfl ?_
        refine s_goto 24 (zdk hX3_bestTier 42 rfl) (by decide) ?_
        exact ih (i + 1) (by omega) (by omega)
theorem c_X3_bestTier (hl : l.stackTraces = false) {M : zMem} {a s : Nat} {g : Nat → Int64} {p : Nat → Nat} (ha : nSh M a) (h : rSt M s g p) (hd : a + 7 ≤ s ∨ s + 77 ≤ a) {f n : Nat} (hf : f < gN g 3) (hn : n ≤ 24) : zCm l G mX3_bestTier 3 110 0 0 [.ref a, .ref s, .int (nI f), .int (nI n)] M (zD (some (.int (zbt (oGn g f n) (nI (gN g (58 + 51 * f + 1))) (gN g 2)).1)) (zsL M (a + 4) (zgr (zJ M (a + 4)) (oGn g f n) f (gN g 2)))) := by
  refine zCd.of (ls0 := [some (.ref a), some (.ref s), some (.int (nI f)), some (.int (nI n)), none, none, none, none]) (by decide +kernel) rfl hl rfl (Nat.le_of_ble_eq_true rfl) rfl ?_
  refine s_aload_n (zdk hX3_bestTier 0 rfl) rfl ?_
  refine s_aload_n (zdk hX3_bestTier 1 rfl) rfl ?_
  refine s_iload_n (zdk hX3_bestTier 2 rfl) rfl ?_
  refine s_iload_n (zdk hX3_bestTier 3 rfl) rfl ?_
  refine s_callV0 (ci := 3) [.ref s, .int (nI f), .int (nI n)] (zdk hX3_bestTier 4 rfl) cw_X3_57 (ha.1) (by decide) rfl rfl rfl (Nat.le_of_ble_eq_true rfl) (by decide) (c_X3_findGains hl ha h hd hf hn) ?_
  have h2 : rSt (zsL M (a + 4) (zgr (zJ M (a + 4)) (oGn g f n) f (gN g 2))) s g p := h.keep ((zag_L _ _ _).mono fun b hb => by omega)
  refine s_aload_n (zdk hX3_bestTier 5 rfl) rfl ?_
  refine s_getR (zdk hX3_bestTier 6 rfl) fw_X3_80 rfl (h2.K) (h2.r6) ?_
  refine s_iload_n (zdk hX3_bestTier 7 rfl) rfl ?_
  refine s_aaloadN (N := 20) (j := f) (zdk hX3_bestTier 8 rfl) (h2.fK) (by decide) (h2.fN) (h2.fL hf) (by decide) (h2.rR hf) ?_
  refine s_getI (zdk hX3_bestTier 9 rfl) fw_X3_104 rfl ((h2.rS hf).1) ?_
  refine s_topi (b := nI (gN g (58 + 51 * f + 1))) ((h2.f2 hf).trans (h.b.on hf)) ?_
  refine s_istore (zdk hX3_bestTier 10 rfl) (Nat.le_of_ble_eq_true rfl) ?_
  refine s_ls (ls' := [some (.ref a), some (.ref s), some (.int (nI f)), some (.int (nI n)), some (.int (nI (gN g (58 + 51 * f + 1)))), none, none, none]) rfl ?_
  refine s_lconstv (v := lN 0) (zdk hX3_bestTier 11 rfl) rfl ?_
  refine s_lstore (zdk hX3_bestTier 12 rfl) (Nat.le_of_ble_eq_true rfl) ?_
  refine s_ls (ls' := [some (.ref a), some (.ref s), some (.int (nI f)), some (.int (nI n)), some (.int (nI (gN g (58 + 51 * f + 1)))), some (.long (lN 0)), none, none]) rfl ?_
  refine s_iconstv (v := nI 0) (zdk hX3_bestTier 13 rfl) zc_iconst_0 ?_
  refine s_istore (zdk hX3_bestTier 14 rfl) (Nat.le_of_ble_eq_true rfl) ?_
  refine s_ls (ls' := [some (.ref a), some (.ref s), some (.int (nI f)), some (.int (nI n)), some (.int (nI (gN g (58 + 51 * f + 1)))), some (.long (lN 0)), none, some (.int (nI 0))]) rfl ?_
  exact w_X3_bestTier_24 hl ha h hd hf hn (gN g 2 + 1) 0 (by omega) (by omega)
theorem w_X3_findMove_17 (hl : l.stackTraces = false) {M : zMem} {a s : Nat} {g : Nat → Int64} {p : Nat → Nat} (ha : nSh M a) (h : rSt M s g p) (hd : a + 7 ≤ s ∨ s + 77 ≤ a) {f : Nat} (hf : f < gN g 3) (ho : ¬ zI M (a + 5) f = 0) (b : zBt) {Q : zOut → zMem → Prop} (hk2 : ∀ (y3 y4 : Option Value), zS l G mX3_findMove 1 30 0 0 89 [some (.ref a), some (.ref s), some (.int (nI f)), y3, y4, none] [] (zMB M a (zfT g (zJ M (a + 4)) (zI M (a + 6)) f (gN g 2) b)) Q) : ∀ (k : Nat) (i : Nat) (x4 : Option Value), i ≤ gN g 2 → gN g 2 - i < k → zS l G mX3_findMove 1 30 0 0 17 [some (.ref a), some (.ref s), some (.int (nI f)), some (.int (nI i)), x4, none] [] (zMB M a (zfT g (zJ M (a + 4)) (zI M (a + 6)) f i b)) Q := by
  have hF := h.b.2.2.1.2
  have hT := h.b.2.1.2
  have h2 : ∀ b, rSt (zMB M a b) s g p := fun b => h.keep (zag_MB.mono fun c hc => by omega)
  intro k
  induction k with
  | zero => intros; omega
  | succ k ih =>
    intro i x4 hi hk
    refine s_aload_n (zdk hX3_findMove_0 11 rfl) rfl ?_
    refine s_getR (zdk hX3_findMove_0 12 rfl) fw_X3_33 rfl (ha.1) (ha.2.2.2.2.2.1.1) ?_
    refine s_iload_n (zdk hX3_findMove_0 13 rfl) rfl ?_
    refine s_baloadN (N := 20) (j := f) (zdk hX3_findMove_0 14 rfl) (ha.2.2.2.2.2.2.2.2.2.2.2.2.2.2.1) (ha.2.2.2.2.2.2.2.2.2.2.2.2.2.2.2.1) (by omega) (by decide) ?_
    refine s_topi (b := zI M (a + 5) f) (congrFun (zMB_In (show a + 5 ≠ a by omega)) f) ?_
    refine s_if_eq 89 (zdk hX3_findMove_0 15 rfl) (by decide) (fun c23 => ?_) (fun c23 => ?_)
    · exact absurd c23 ho
    · refine s_iload_n (zdk hX3_findMove_0 16 rfl) rfl ?_
      refine s_aload_n (zdk hX3_findMove_0 17 rfl) rfl ?_
      refine s_getI (zdk hX3_findMove_0 18 rfl) fw_X3_64 rfl ((h2 _).K) ?_
      refine s_topi (b := nI (gN g 2)) ((h2 _).v3) ?_
      refine s_icmp_ge 89 (zdk hX3_findMove_0 19 rfl) (by decide) (fun c31 => ?_) (fun c31 => ?_)
      · obtain rfl : i = gN g 2 := by have := nle c31 (by omega) (by omega); omega
        exact hk2 _ _
      · have hi2 : i < gN g 2 := nlt c31 (by omega) (by omega)
        refine s_aload_n (zdk hX3_findMove_0 20 rfl) rfl ?_
        refine s_getR (zdk hX3_findMove_0 21 rfl) fw_X3_29 rfl (ha.1) (ha.2.2.2.2.1) ?_
        refine s_iload_n (zdk hX3_findMove_0 22 rfl) rfl ?_
        refine s_iconstv (v := nI 4) (zdk hX3_findMove_0 23 rfl) zc_iconst_4 ?_
        refine s_imul (zdk hX3_findMove_0 24 rfl) ?_
        refine s_topi (b := nI (f * 4)) (pk_mul _ _) ?_
        refine s_iload_n (zdk hX3_findMove_0 25 rfl) rfl ?_
        refine s_iadd (zdk hX3_findMove_0 26 rfl) ?_
        refine s_topi (b := nI (f * 4 + i)) (nI_add _ _) ?_
        refine s_laloadN (N := 80) (j := (f * 4 + i)) (zdk hX3_findMove_0 27 rfl) (ha.2.2.2.2.2.2.2.2.2.2.2.2.1) (ha.2.2.2.2.2.2.2.2.2.2.2.2.2.1) (by omega) (by decide) ?_
        refine s_topl (b := zJ M (a + 4) (f * 4 + i)) (congrFun (zMB_Jn (show a + 4 ≠ a by omega)) _) ?_
        refine s_lstore (zdk hX3_findMove_0 28 rfl) (Nat.le_of_ble_eq_true rfl) ?_
        refine s_ls (ls' := [some (.ref a), some (.ref s), some (.int (nI f)), some (.int (nI i)), some (.long (zJ M (a + 4) (f * 4 + i))), none]) rfl ?_
        refine s_lload (zdk hX3_findMove_0 29 rfl) rfl ?_
        refine s_aload_n (zdk hX3_findMove_0 30 rfl) rfl ?_
        refine s_getJ (zdk hX3_findMove_0 31 rfl) fw_X3_49 rfl (ha.1) ?_
        refine s_topl (b := (zfT g (zJ M (a + 4)) (zI M (a + 6)) f i b).2.2.2) (zMB_J) ?_
        refine s_lcmp (zdk hX3_findMove_0 32 rfl) ?_
        refine s_if_le 83 (zdk hX3_findMove_0 33 rfl) (by decide) (fun c53 => ?_) (fun c53 => ?_)
        · have e1 : (zfT g (zJ M (a + 4)) (zI M (a + 6)) f (i + 1) b) = (zfT g (zJ M (a + 4)) (zI M (a + 6)) f i b) := if_neg (fun q => q.1 (lcmp_le c53))
          refine s_mem (M' := (zMB M a (zfT g (zJ M (a + 4)) (zI M (a + 6)) f (i + 1) b))) (by rw [e1]) ?_
          refine s_iinc (r := nI (i + 1)) (zdk hX3_findMove_0 50 rfl) (Nat.le_of_ble_eq_true rfl) rfl (nI_1 i) ?_
          refine s_ls (ls' := [some (.ref a), some (.ref s), some (.int (nI f)), some (.int (nI (i + 1))), some (.long (zJ M (a + 4) (f * 4 + i))), none]) rfl ?_
          refine s_goto 17 (zdk hX3_findMove_0 51 rfl) (by decide) ?_
          exact ih (i + 1) _ (by omega) (by omega)
        · refine s_aload_n (zdk hX3_findMove_0 34 rfl) rfl ?_
          refine s_getR (zdk hX3_findMove_0 35 rfl) fw_X3_80 rfl ((h2 _).K) ((h2 _).r6) ?_
          refine s_iload_n (zdk hX3_findMove_0 36 rfl) rfl ?_
          refine s_aaloadN (N := 20) (j := f) (zdk hX3_findMove_0 37 rfl) ((h2 _).fK) (by decide) ((h2 _).fN) (h.fL hf) (by decide) ((h2 _).rR hf) ?_
          refine s_getI (zdk hX3_findMove_0 38 rfl) fw_X3_123 rfl (((h2 _).rS hf).1) ?_
          refine s_topi (b := gf g f 0) ((h2 _).f1 hf) ?_
          refine s_aload_n (zdk hX3_findMove_0 39 rfl) rfl ?_
          refine s_getR (zdk hX3_findMove_0 40 rfl) fw_X3_37 rfl (ha.1) (ha.2.2.2.2.2.1.2) ?_
          refine s_iload_n (zdk hX3_findMove_0 41 rfl) rfl ?_
          refine s_ialoadN (N := 4) (j := i) (zdk hX3_findMove_0 42 rfl) (ha.2.2.2.2.2.2.2.2.2.2.2.2.2.2.2.2.1) (ha.2.2.2.2.2.2.2.2.2.2.2.2.2.2.2.2.2) (by omega) (by decide) ?_
          refine s_topi (b := zI M (a + 6) i) (congrFun (zMB_In (show a + 6 ≠ a by omega)) i) ?_
          refine s_icmp_gt 83 (zdk hX3_findMove_0 43 rfl) (by decide) (fun c71 => ?_) (fun c71 => ?_)
          · have e1 : (zfT g (zJ M (a + 4)) (zI M (a + 6)) f (i + 1) b) = (zfT g (zJ M (a + 4)) (zI M (a + 6)) f i b) := if_neg (fun q => absurd q.2 (Int32.not_le.mpr c71))
            refine s_mem (M' := (zMB M a (zfT g (zJ M (a + 4)) (zI M (a + 6)) f (i + 1) b))) (by rw [e1]) ?_
            refine s_iinc (r := nI (i + 1)) (zdk hX3_findMove_0 50 rfl) (Nat.le_of_ble_eq_true rfl) rfl (nI_1 i) ?_
            refine s_ls (ls' := [some (.ref a), some (.ref s), some (.int (nI f)), some (.int (nI (i + 1))), some (.long (zJ M (a + 4) (f * 4 + i))), none]) rfl ?_
            refine s_goto 17 (zdk hX3_findMove_0 51 rfl) (by decide) ?_
            exact ih (i + 1) _ (by omega) (by omega)
          · have e1 : (zfT g (zJ M (a + 4)) (zI M (a + 6)) f (i + 1) b) = (nI f, -1, nI i, zJ M (a + 4) (f * 4 + i)) := if_pos ⟨fun q => absurd q (Int64.not_le.mpr (lcmp_gt c53)), Int32.not_lt.mp c71⟩
            refine s_aload_n (zdk hX3_findMove_0 44 rfl) rfl ?_
            refine s_iload_n (zdk hX3_findMove_0 45 rfl) rfl ?_
            refine s_iconstv (v := (-1)) (zdk hX3_findMove_0 46 rfl) zc_iconst_m1 ?_
            refine s_iload_n (zdk hX3_findMove_0 47 rfl) rfl ?_
            refine s_lload (zdk hX3_findMove_0 48 rfl) rfl ?_
            refine s_callV0 (ci := 3) [.int (nI f), .int ((-1)), .int (nI i), .long (zJ M (a + 4) (f * 4 + i))] (zdk hX3_findMove_0 49 rfl) cw_X3_126 (ha.1) (by decide) rfl rfl rfl (Nat.le_of_ble_eq_true rfl) (by decide) (c_X3_setBest hl (show nSh (zMB M a _) a from ha) (nI f) (-1) (nI i) _) ?_
            refine s_mem (M' := (zMB M a (zfT g (zJ M (a + 4)) (zI M (a + 6)) f (i + 1) b))) (by rw [e1]; exact zMB_zMB _ _ _ _) ?_
            refine s_iinc (r := nI (i + 1)) (zdk hX3_findMove_0 50 rfl) (Nat.le_of_ble_eq_true rfl) rfl (nI_1 i) ?_
            refine s_ls (ls' := [some (.ref a), some (.ref s), some (.int (nI f)), some (.int (nI (i + 1))), some (.long (zJ M (a + 4) (f * 4 + i))), none]) rfl ?_
            refine s_goto 17 (zdk hX3_findMove_0 51 rfl) (by decide) ?_
            exact ih (i + 1) _ (by omega) (by omega)
theorem w_X3_findMove_7 (hl : l.stackTraces = false) {M : zMem} {a s : Nat} {g : Nat → Int64} {p : Nat → Nat} (ha : nSh M a) (h : rSt M s g p) (hd : a + 7 ≤ s ∨ s + 77 ≤ a) : ∀ (k : Nat) (i : Nat) (x3 x4 : Option Value), i ≤ gN g 3 → gN g 3 - i < k → zS l G mX3_findMove 1 30 0 0 7 [some (.ref a), some (.ref s), some (.int (nI i)), x3, x4, none] [] (zMB M a (zfF g (zJ M (a + 4)) (zI M (a + 5)) (zI M (a + 6)) i (zI M a 8, zI M a 9, zI M a 10, lN 0))) (zD (some (.int (if (zfF g (zJ M (a + 4)) (zI M (a + 5)) (zI M (a + 6)) (gN g 3) (zI M a 8, zI M a 9, zI M a 10, lN 0)).2.2.2 ≤ lN 0 then nI 0 else nI 1))) (zMB M a (zfF g (zJ M (a + 4)) (zI M (a + 5)) (zI M (a + 6)) (gN g 3) (zI M a 8, zI M a 9, zI M a 10, lN 0)))) := by
  have hF := h.b.2.2.1.2
  have hT := h.b.2.1.2
  have h2 : ∀ b, rSt (zMB M a b) s g p := fun b => h.keep (zag_MB.mono fun c hc => by omega)
  intro k
  induction k with
  | zero => intros; omega
  | succ k ih =>
    intro i x3 x4 hi hk
    refine s_iload_n (zdk hX3_findMove_0 5 rfl) rfl ?_
    refine s_aload_n (zdk hX3_findMove_0 6 rfl) rfl ?_
    refine s_getI (zdk hX3_findMove_0 7 rfl) fw_X3_52 rfl ((h2 _).K) ?_
    refine s_topi (b := nI (gN g 3)) ((h2 _).v4) ?_
    refine s_icmp_ge 95 (zdk hX3_findMove_0 8 rfl) (by decide) (fun c12 => ?_) (fun c12 => ?_)
    · obtain rfl : i = gN g 3 := by have := nle c12 (by omega) (by omega); omega
      refine s_aload_n (zdk hX3_findMove_0 54 rfl) rfl ?_
      refine s_getJ (zdk hX3_findMove_0 55 rfl) fw_X3_49 rfl (ha.1) ?_
      refine s_topl (b := (zfF g (zJ M (a + 4)) (zI M (a + 5)) (zI M (a + 6)) (gN g 3) (zI M a 8, zI M a 9, zI M a 10, lN 0)).2.2.2) (zMB_J) ?_
      refine s_lconstv (v := lN 0) (zdk hX3_findMove_0 56 rfl) rfl ?_
      refine s_lcmp (zdk hX3_findMove_0 57 rfl) ?_
      refine s_if_le 108 (zdk hX3_findMove_0 58 rfl) (by decide) (fun c101 => ?_) (fun c101 => ?_)
      · refine s_iconstv (v := nI 0) (zdk hX3_findMove_1 1 rfl) zc_iconst_0 ?_
        refine s_ireturn (zdk hX3_findMove_1 2 rfl) rfl rfl ?_
        first | exact ⟨by rw [if_pos (lcmp_le c101)], rfl⟩ | exact ⟨by rw [if_neg (Int64.not_le.mpr (lcmp_gt c101))], rfl⟩
      · refine s_iconstv (v := nI 1) (zdk hX3_findMove_0 59 rfl) zc_iconst_1 ?_
        refine s_goto 109 (zdk hX3_findMove_1 0 rfl) (by decide) ?_
        refine s_ireturn (zdk hX3_findMove_1 2 rfl) rfl rfl ?_
        first | exact ⟨by rw [if_pos (lcmp_le c101)], rfl⟩ | exact ⟨by rw [if_neg (Int64.not_le.mpr (lcmp_gt c101))], rfl⟩
    · have hi2 : i < gN g 3 := nlt c12 (by omega) (by omega)
      by_cases hop : zI M (a + 5) i = 0
      · refine s_iconstv (v := nI 0) (zdk hX3_findMove_0 9 rfl) zc_iconst_0 ?_
        refine s_istore_n (zdk hX3_findMove_0 10 rfl) (Nat.le_of_ble_eq_true rfl) ?_
        refine s_ls (ls' := [some (.ref a), some (.ref s), some (.int (nI i)), some (.int (nI 0)), x4, none]) rfl ?_
        refine s_aload_n (zdk hX3_findMove_0 11 rfl) rfl ?_
        refine s_getR (zdk hX3_findMove_0 12 rfl) fw_X3_33 rfl (ha.1) (ha.2.2.2.2.2.1.1) ?_
        refine s_iload_n (zdk hX3_findMove_0 13 rfl) rfl ?_
        refine s_baloadN (N := 20) (j := i) (zdk hX3_findMove_0 14 rfl) (ha.2.2.2.2.2.2.2.2.2.2.2.2.2.2.1) (ha.2.2.2.2.2.2.2.2.2.2.2.2.2.2.2.1) (by omega) (by decide) ?_
        refine s_topi (b := zI M (a + 5) i) (congrFun (zMB_In (show a + 5 ≠ a by omega)) i) ?_
        refine s_if_eq 89 (zdk hX3_findMove_0 15 rfl) (by decide) (fun c23 => ?_) (fun c23 => ?_)
        · have e1 : (zfF g (zJ M (a + 4)) (zI M (a + 5)) (zI M (a + 6)) (i + 1) (zI M a 8, zI M a 9, zI M a 10, lN 0)) = (zfF g (zJ M (a + 4)) (zI M (a + 5)) (zI M (a + 6)) i (zI M a 8, zI M a 9, zI M a 10, lN 0)) := if_pos hop
          refine s_mem (M' := (zMB M a (zfF g (zJ M (a + 4)) (zI M (a + 5)) (zI M (a + 6)) (i + 1) (zI M a 8, zI M a 9, zI M a 10, lN 0)))) (by rw [e1]) ?_
          refine s_iinc (r := nI (i + 1)) (zdk hX3_findMove_0 52 rfl) (Nat.le_of_ble_eq_true rfl) rfl (nI_1 i) ?_
          refine s_ls (ls' := [some (.ref a), some (.ref s), some (.int (nI (i + 1))), some (.int (nI 0)), x4, none]) rfl ?_
          refine s_goto 7 (zdk hX3_findMove_0 53 rfl) (by decide) ?_
          exact ih (i + 1) _ _ (by omega) (by omega)
        · exact absurd hop c23
      · refine s_iconstv (v := nI 0) (zdk hX3_findMove_0 9 rfl) zc_iconst_0 ?_
        refine s_istore_n (zdk hX3_findMove_0 10 rfl) (Nat.le_of_ble_eq_true rfl) ?_
        refine s_ls (ls' := [some (.ref a), some (.ref s), some (.int (nI i)), some (.int (nI 0)), x4, none]) rfl ?_
        refine w_X3_findMove_17 hl ha h hd hi2 hop (zfF g (zJ M (a + 4)) (zI M (a + 5)) (zI M (a + 6)) i (zI M a 8, zI M a 9, zI M a 10, lN 0)) (fun y3 y4 => ?_) (gN g 2 + 1) 0 _ (by omega) (by omega)
        have e1 : (zfF g (zJ M (a + 4)) (zI M (a + 5)) (zI M (a + 6)) (i + 1) (zI M a 8, zI M a 9, zI M a 10, lN 0)) = (zfT g (zJ M (a + 4)) (zI M (a + 6)) i (gN g 2) (zfF g (zJ M (a + 4)) (zI M (a + 5)) (zI M (a + 6)) i (zI M a 8, zI M a 9, zI M a 10, lN 0))) := if_neg hop
        refine s_mem (M' := (zMB M a (zfF g (zJ M (a + 4)) (zI M (a + 5)) (zI M (a + 6)) (i + 1) (zI M a 8, zI M a 9, zI M a 10, lN 0)))) (by rw [e1]) ?_
        refine s_iinc (r := nI (i + 1)) (zdk hX3_findMove_0 52 rfl) (Nat.le_of_ble_eq_true rfl) rfl (nI_1 i) ?_
        refine s_ls (ls' := [some (.ref a), some (.ref s), some (.int (nI (i + 1))), y3, y4, none]) rfl ?_
        refine s_goto 7 (zdk hX3_findMove_0 53 rfl) (by decide) ?_
        exact ih (i + 1) _ _ (by omega) (by omega)
theorem c_X3_findMove (hl : l.stackTraces = false) {M : zMem} {a s : Nat} {g : Nat → Int64} {p : Nat → Nat} (ha : nSh M a) (h : rSt M s g p) (hd : a + 7 ≤ s ∨ s + 77 ≤ a) : zCm l G mX3_findMove 1 30 0 0 [.ref a, .ref s] M (zD (some (.int (if (zfF g (zJ M (a + 4)) (zI M (a + 5)) (zI M (a + 6)) (gN g 3) (zI M a 8, zI M a 9, zI M a 10, lN 0)).2.2.2 ≤ lN 0 then nI 0 else nI 1))) (zMB M a (zfF g (zJ M (a + 4)) (zI M (a + 5)) (zI M (a + 6)) (gN g 3) (zI M a 8, zI M a 9, zI M a 10, lN 0)))) := by
  refine zCd.of (ls0 := [some (.ref a), some (.ref s), none, none, none, none]) (by decide +kernel) rfl hl rfl (Nat.le_of_ble_eq_true rfl) rfl ?_
  refine s_aload_n (zdk hX3_findMove_0 0 rfl) rfl ?_
  refine s_lconstv (v := lN 0) (zdk hX3_findMove_0 1 rfl) rfl ?_
  refine s_putJ (zdk hX3_findMove_0 2 rfl) fw_X3_49 rfl pw_3_11 (ha.1) ?_
  refine s_iconstv (v := nI 0) (zdk hX3_findMove_0 3 rfl) zc_iconst_0 ?_
  refine s_istore_n (zdk hX3_findMove_0 4 rfl) (Nat.le_of_ble_eq_true rfl) ?_
  refine s_ls (ls' := [some (.ref a), some (.ref s), some (.int (nI 0)), none, none, none]) rfl ?_
  refine s_mem (M' := (zMB M a (zI M a 8, zI M a 9, zI M a 10, lN 0))) (zMB_0 _ _ _) ?_
  exact w_X3_findMove_7 hl ha h hd (gN g 3 + 1) 0 none none (by omega) (by omega)
end

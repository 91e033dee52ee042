/-! ===== the reference: wish ===== -/
def rWg (g ot : Nat → Int64) (f : Nat) (t : Nat) : Int64 := if t = gN g (58 + 51 * f + 1) then lN 0 else rSv g ot f (gN g (58 + 51 * f + 1)) t
section
variable {l : Launch} {G : zG}
theorem c_X9_wish_x (hl : l.stackTraces = false) {M : zMem} (hm : mSh M) {g : Nat → Int64} (hb : gBd g) (f n : Int32) (hx : ¬ (inN f (gN g 3) ∧ (nI 1 ≤ n ∧ n ≤ nI 24))) : zCm l G mX9_wish 3 70 0 0 [.ref 941, .int (f), .int (n)] (zsL M 942 g) (zD (some (.int (nI 0))) (zsL (zsI M 941 6 (nI (t2 (inN f (gN g 3)) (nI 1 ≤ n ∧ n ≤ nI 24) 1 2))) 942 g)) := by
  refine zCd.of (ls0 := [some (.ref 941), some (.int (f)), some (.int (n)), none, none, none, none, none, none]) (by decide +kernel) rfl hl rfl (Nat.le_of_ble_eq_true rfl) rfl ?_
  have hn2 := hb.2.2.1.2
  have ht4 := hb.2.1.2
  have hcy := hb.1.2.2
  have hpe := hb.2.2.2.1.2
  refine s_aload_n (zdk hX9_wish_0 0 rfl) rfl ?_
  refine s_aload_n (zdk hX9_wish_0 1 rfl) rfl ?_
  refine s_iload_n (zdk hX9_wish_0 2 rfl) rfl ?_
  refine s_callV0 (ci := 9) [.int (f)] (zdk hX9_wish_0 3 rfl) cw_X9_254 (hm.1) (by decide) rfl rfl rfl (Nat.le_of_ble_eq_true rfl) (by decide) (c_X9_isFile hl (M := M) (g := g) hm hb (f)) ?_
  refine s_if_ne 13 (zdk hX9_wish_0 4 rfl) (by decide) (fun c6 => ?_) (fun c6 => ?_)
  · have b6 : inN (f) (gN g 3) := b01_ne c6
    refine s_iload_n (zdk hX9_wish_0 7 rfl) rfl ?_
    refine s_callS0 [.int (n)] (zdk hX9_wish_0 8 rfl) cw_X9_320 rfl (Nat.le_of_ble_eq_true rfl) (by decide) (c_X9_isSpan hl (zsL M 942 g) (n)) ?_
    refine s_if_eq 24 (zdk hX9_wish_0 9 rfl) (by decide) (fun c17 => ?_) (fun c17 => ?_)
    · have b17 : ¬ (nI 1 ≤ n ∧ n ≤ nI 24) := b01_eq c17
      refine s_iconstv (v := nI 2) (zdk hX9_wish_0 12 rfl) zc_iconst_2 ?_
      refine s_putI (zdk hX9_wish_0 13 rfl) fw_X9_69 rfl pw_9_6 (hm.1) ?_
      refine s_mem (M' := (zsL (zsI M 941 6 (nI 2)) 942 g)) rfl ?_
      refine s_aload_n (zdk hX9_wish_0 14 rfl) rfl ?_
      refine s_getI (zdk hX9_wish_0 15 rfl) fw_X9_69 rfl (hm.1) ?_
      refine s_topi (b := nI 2) ((congrFun (zI_Ie (M := M) (a := 941) (k := 6) (v := (nI 2))) 6).trans zw1_e) ?_
      refine s_if_le 37 (zdk hX9_wish_0 16 rfl) (by decide) (fun c32 => ?_) (fun c32 => ?_)
      · exact absurd c32 (by decide)
      · refine s_iconstv (v := nI 0) (zdk hX9_wish_0 17 rfl) zc_iconst_0 ?_
        refine s_ireturn (zdk hX9_wish_0 18 rfl) rfl rfl ?_
        first | (rw [t2_2 b6 b17]; exact ⟨rfl, rfl⟩) | (rw [t2_1 b6]; exact ⟨rfl, rfl⟩)
    · have b17 : nI 1 ≤ n ∧ n ≤ nI 24 := b01_ne c17
      refine s_iconstv (v := nI 0) (zdk hX9_wish_0 10 rfl) zc_iconst_0 ?_
      refine s_goto 25 (zdk hX9_wish_0 11 rfl) (by decide) ?_
      refine s_putI (zdk hX9_wish_0 13 rfl) fw_X9_69 rfl pw_9_6 (hm.1) ?_
      refine s_mem (M' := (zsL (zsI M 941 6 (nI 0)) 942 g)) rfl ?_
      refine s_aload_n (zdk hX9_wish_0 14 rfl) rfl ?_
      refine s_getI (zdk hX9_wish_0 15 rfl) fw_X9_69 rfl (hm.1) ?_
      refine s_topi (b := nI 0) ((congrFun (zI_Ie (M := M) (a := 941) (k := 6) (v := (nI 0))) 6).trans zw1_e) ?_
      refine s_if_le 37 (zdk hX9_wish_0 16 rfl) (by decide) (fun c32 => ?_) (fun c32 => ?_)
      · exact absurd ⟨b6, b17⟩ hx
      · exact absurd (by decide) c32
  · have b6 : ¬ (inN (f) (gN g 3)) := b01_eq c6
    refine s_iconstv (v := nI 1) (zdk hX9_wish_0 5 rfl) zc_iconst_1 ?_
    refine s_goto 25 (zdk hX9_wish_0 6 rfl) (by decide) ?_
    refine s_putI (zdk hX9_wish_0 13 rfl) fw_X9_69 rfl pw_9_6 (hm.1) ?_
    refine s_mem (M' := (zsL (zsI M 941 6 (nI 1)) 942 g)) rfl ?_
    refine s_aload_n (zdk hX9_wish_0 14 rfl) rfl ?_
    refine s_getI (zdk hX9_wish_0 15 rfl) fw_X9_69 rfl (hm.1) ?_
    refine s_topi (b := nI 1) ((congrFun (zI_Ie (M := M) (a := 941) (k := 6) (v := (nI 1))) 6).trans zw1_e) ?_
    refine s_if_le 37 (zdk hX9_wish_0 16 rfl) (by decide) (fun c32 => ?_) (fun c32 => ?_)
    · exact absurd c32 (by decide)
    · refine s_iconstv (v := nI 0) (zdk hX9_wish_0 17 rfl) zc_iconst_0 ?_
      refine s_ireturn (zdk hX9_wish_0 18 rfl) rfl rfl ?_
      first | (rw [t2_2 b6 b17]; exact ⟨rfl, rfl⟩) | (rw [t2_1 b6]; exact ⟨rfl, rfl⟩)
theorem w_X9_wish_55 (hl : l.stackTraces = false) {M : zMem} (hm : mSh M) {g : Nat → Int64} (hb : gBd g) {f n : Nat} (hf : f < gN g 3) (hn1 : 1 ≤ n) (hn24 : n ≤ 24) : ∀ (k : Nat) (t : Nat) (x7 x8 : Option Value), t ≤ gN g 2 → gN g 2 - t < k → zS l G mX9_wish 6 170 0 0 55 [some (.ref 941), some (.int (nI f)), some (.int (nI n)), some (.int ((zbt (rWg g (rLay g n (zJ M 954) (gN g 3)) f) (nI (gN g (58 + 51 * f + 1))) t).1)), some (.long ((zbt (rWg g (rLay g n (zJ M 954) (gN g 3)) f) (nI (gN g (58 + 51 * f + 1))) t).2)), none, some (.int (nI t)), x7, x8] [] (zsL (zsL (zsI M 941 6 (nI 0)) 954 (rLay g n (zJ M 954) (gN g 3))) 942 g) (zD (some (.int (zbt (rWg g (rLay g n (zJ M 954) (gN g 3)) f) (nI (gN g (58 + 51 * f + 1))) (gN g 2)).1)) (zsL (zsL (zsI M 941 6 (nI 0)) 954 (rLay g n (zJ M 954) (gN g 3))) 942 g)) := by
  intro k
  induction k with
  | zero => intros; omega
  | succ k ih =>
    intro t x7 x8 hi hk
    have hn2 := hb.2.2.1.2
    have ht4 := hb.2.1.2
    have ho := hb.2.2.2.2.2.1 f hf

    refine s_iload (zdk hX9_wish_0 31 rfl) rfl ?_
    refine s_aload_n (zdk hX9_wish_0 32 rfl) rfl ?_
    refine s_callV0 (ci := 9) [] (zdk hX9_wish_0 33 rfl) cw_X9_154 (hm.1) (by decide) rfl rfl rfl (Nat.le_of_ble_eq_true rfl) (by decide) (c_X9_tiers hl (M := (zsL (zsI M 941 6 (nI 0)) 954 (rLay g n (zJ M 954) (gN g 3)))) (g := g) hm hb) ?_
    refine s_icmp_ge 118 (zdk hX9_wish_0 34 rfl) (by decide) (fun c61 => ?_) (fun c61 => ?_)
    · have n61 : gN g 2 ≤ t := nle c61 (by omega) (by omega)
      obtain rfl : t = gN g 2 := by omega
      refine s_iload_n (zdk hX9_wish_1 3 rfl) rfl ?_
      refine s_ireturn (zdk hX9_wish_1 4 rfl) rfl rfl ?_
      exact ⟨rfl, rfl⟩
    · have n61 : t < gN g 2 := nlt c61 (by omega) (by omega)
      refine s_iload (zdk hX9_wish_0 35 rfl) rfl ?_
      refine s_aload_n (zdk hX9_wish_0 36 rfl) rfl ?_
      refine s_iload_n (zdk hX9_wish_0 37 rfl) rfl ?_
      refine s_iconstv (v := nI 1) (zdk hX9_wish_0 38 rfl) zc_iconst_1 ?_
      refine s_callV0 (ci := 9) [.int (nI f), .int (nI 1)] (zdk hX9_wish_0 39 rfl) cw_X9_211 (hm.1) (by decide) rfl rfl rfl (Nat.le_of_ble_eq_true rfl) (by decide) (c_X9_of hl (M := (zsL (zsI M 941 6 (nI 0)) 954 (rLay g n (zJ M 954) (gN g 3)))) (g := g) hm (f := f) (k := 1) (by omega)) ?_
      refine s_topi (b := nI (gN g (58 + 51 * f + 1))) (ho.1.1) ?_
      refine s_icmp_ne 79 (zdk hX9_wish_0 40 rfl) (by decide) (fun c72 => ?_) (fun c72 => ?_)
      · have n72 : ¬ t = gN g (58 + 51 * f + 1) := nne c72
        have e1 : rSv g (rLay g n (zJ M 954) (gN g 3)) f (gN g (58 + 51 * f + 1)) t = rWg g (rLay g n (zJ M 954) (gN g 3)) f t := (if_neg n72).symm
        refine s_aload_n (zdk hX9_wish_0 43 rfl) rfl ?_
        refine s_iload_n (zdk hX9_wish_0 44 rfl) rfl ?_
        refine s_aload_n (zdk hX9_wish_0 45 rfl) rfl ?_
        refine s_iload_n (zdk hX9_wish_0 46 rfl) rfl ?_
        refine s_iconstv (v := nI 1) (zdk hX9_wish_0 47 rfl) zc_iconst_1 ?_
        refine s_callV0 (ci := 9) [.int (nI f), .int (nI 1)] (zdk hX9_wish_0 48 rfl) cw_X9_211 (hm.1) (by decide) rfl rfl rfl (Nat.le_of_ble_eq_true rfl) (by decide) (c_X9_of hl (M := (zsL (zsI M 941 6 (nI 0)) 954 (rLay g n (zJ M 954) (gN g 3)))) (g := g) hm (f := f) (k := 1) (by omega)) ?_
        refine s_topi (b := nI (gN g (58 + 51 * f + 1))) (ho.1.1) ?_
        refine s_iload (zdk hX9_wish_0 49 rfl) rfl ?_
        refine s_callV0 (ci := 9) [.int (nI f), .int (nI (gN g (58 + 51 * f + 1))), .int (nI t)] (zdk hX9_wish_0 50 rfl) cw_X9_290 (hm.1) (by decide) rfl rfl rfl (Nat.le_of_ble_eq_true rfl) (by decide) (c_X9_savesBy hl (M := (zsL (zsI M 941 6 (nI 0)) 954 (rLay g n (zJ M 954) (gN g 3)))) (g := g) hm (f := f) (a := (gN g (58 + 51 * f + 1))) (c := t) (by omega) (by omega) (by omega)) ?_
        refine s_topl (b := rWg g (rLay g n (zJ M 954) (gN g 3)) f t) e1 ?_
        refine s_lstore (zdk hX9_wish_0 51 rfl) (Nat.le_of_ble_eq_true rfl) ?_
        refine s_ls (ls' := [some (.ref 941), some (.int (nI f)), some (.int (nI n)), some (.int ((zbt (rWg g (rLay g n (zJ M 954) (gN g 3)) f) (nI (gN g (58 + 51 * f + 1))) t).1)), some (.long ((zbt (rWg g (rLay g n (zJ M 954) (gN g 3)) f) (nI (gN g (58 + 51 * f + 1))) t).2)), none, some (.int (nI t)), some (.long (rWg g (rLay g n (zJ M 954) (gN g 3)) f t)), none]) rfl ?_
        refine s_lload (zdk hX9_wish_0 52 rfl) rfl ?_
        refine s_lload (zdk hX9_wish_0 53 rfl) rfl ?_
        refine s_lcmp (zdk hX9_wish_0 54 rfl) ?_
        refine s_if_gt 105 (zdk hX9_wish_0 55 rfl) (by decide) (fun c99 => ?_) (fun c99 => ?_)
        · have e2 : (zbt (rWg g (rLay g n (zJ M 954) (gN g 3)) f) (nI (gN g (58 + 51 * f + 1))) (t + 1)) = (nI t, rWg g (rLay g n (zJ M 954) (gN g 3)) f t) := if_neg (lcmp_gt' c99)
          refine s_lload (zdk hX9_wish_0 57 rfl) rfl ?_
          refine s_lstore (zdk hX9_wish_0 58 rfl) (Nat.le_of_ble_eq_true rfl) ?_
          refine s_ls (ls' := [some (.ref 941), some (.int (nI f)), some (.int (nI n)), some (.int ((zbt (rWg g (rLay g n (zJ M 954) (gN g 3)) f) (nI (gN g (58 + 51 * f + 1))) t).1)), some (.long (rWg g (rLay g n (zJ M 954) (gN g 3)) f t)), none, some (.int (nI t)), some (.long (rWg g (rLay g n (zJ M 954) (gN g 3)) f t)), none]) rfl ?_
          refine s_iload (zdk hX9_wish_0 59 rfl) rfl ?_
          refine s_istore_n (zdk hX9_wish_1 0 rfl) (Nat.le_of_ble_eq_true rfl) ?_
          refine s_ls (ls' := [some (.ref 941), some (.int (nI f)), some (.int (nI n)), some (.int (nI t)), some (.long (rWg g (rLay g n (zJ M 954) (gN g 3)) f t)), none, some (.int (nI t)), some (.long (rWg g (rLay g n (zJ M 954) (gN g 3)) f t)), none]) rfl ?_
          refine s_ls (ls' := [some (.ref 941), some (.int (nI f)), some (.int (nI n)), some (.int ((zbt (rWg g (rLay g n (zJ M 954) (gN g 3)) f) (nI (gN g (58 + 51 * f + 1))) (t + 1)).1)), some (.long ((zbt (rWg g (rLay g n (zJ M 954) (gN g 3)) f) (nI (gN g (58 + 51 * f + 1))) (t + 1)).2)), none, some (.int (nI t)), some (.long (rWg g (rLay g n (zJ M 954) (gN g 3)) f t)), none]) (by rw [e2]) ?_
          refine s_iinc (r := nI (t + 1)) (zdk hX9_wish_1 1 rfl) (Nat.le_of_ble_eq_true rfl) rfl (nI_1 _) ?_
          refine s_ls (ls' := [some (.ref 941), some (.int (nI f)), some (.int (nI n)), some (.int ((zbt (rWg g (rLay g n (zJ M 954) (gN g 3)) f) (nI (gN g (58 + 51 * f + 1))) (t + 1)).1)), some (.long ((zbt (rWg g (rLay g n (zJ M 954) (gN g 3)) f) (nI (gN g (58 + 51 * f + 1))) (t + 1)).2)), none, some (.int (nI (t + 1))), some (.long (rWg g (rLay g n (zJ M 954) (gN g 3)) f t)), none]) rfl ?_
          refine s_goto 55 (zdk hX9_wish_1 2 rfl) (by decide) ?_
          exact ih (t + 1) _ _ (by omega) (by omega)
        · have e2 : (zbt (rWg g (rLay g n (zJ M 954) (gN g 3)) f) (nI (gN g (58 + 51 * f + 1))) (t + 1)) = (zbt (rWg g (rLay g n (zJ M 954) (gN g 3)) f) (nI (gN g (58 + 51 * f + 1))) t) := if_pos (lcmp_le' c99)
          refine s_goto 112 (zdk hX9_wish_0 56 rfl) (by decide) ?_
          refine s_ls (ls' := [some (.ref 941), some (.int (nI f)), some (.int (nI n)), some (.int ((zbt (rWg g (rLay g n (zJ M 954) (gN g 3)) f) (nI (gN g (58 + 51 * f + 1))) (t + 1)).1)), some (.long ((zbt (rWg g (rLay g n (zJ M 954) (gN g 3)) f) (nI (gN g (58 + 51 * f + 1))) (t + 1)).2)), none, some (.int (nI t)), some (.long (rWg g (rLay g n (zJ M 954) (gN g 3)) f t)), none]) (by rw [e2]) ?_
          refine s_iinc (r := nI (t + 1)) (zdk hX9_wish_1 1 rfl) (Nat.le_of_ble_eq_true rfl) rfl (nI_1 _) ?_
          refine s_ls (ls' := [some (.ref 941), some (.int (nI f)), some (.int (nI n)), some (.int ((zbt (rWg g (rLay g n (zJ M 954) (gN g 3)) f) (nI (gN g (58 + 51 * f + 1))) (t + 1)).1)), some (.long ((zbt (rWg g (rLay g n (zJ M 954) (gN g 3)) f) (nI (gN g (58 + 51 * f + 1))) (t + 1)).2)), none, some (.int (nI (t + 1))), some (.long (rWg g (rLay g n (zJ M 954) (gN g 3)) f t)), none]) rfl ?_
          refine s_goto 55 (zdk hX9_wish_1 2 rfl) (by decide) ?_
          exact ih (t + 1) _ _ (by omega) (by omega)
      · have n72 : t = gN g (58 + 51 * f + 1) := neq c72 (by omega) (by omega)
        have e1 : lN 0 = rWg g (rLay g n (zJ M 954) (gN g 3)) f t := (if_pos n72).symm
        refine s_lconstv (v := lN 0) (zdk hX9_wish_0 41 rfl) rfl ?_
        refine s_goto 92 (zdk hX9_wish_0 42 rfl) (by decide) ?_
        refine s_topl (b := rWg g (rLay g n (zJ M 954) (gN g 3)) f t) e1 ?_
        refine s_lstore (zdk hX9_wish_0 51 rfl) (Nat.le_of_ble_eq_true rfl) ?_
        refine s_ls (ls' := [some (.ref 941), some (.int (nI f)), some (.int (nI n)), some (.int ((zbt (rWg g (rLay g n (zJ M 954) (gN g 3)) f) (nI (gN g (58 + 51 * f + 1))) t).1)), some (.long ((zbt (rWg g (rLay g n (zJ M 954) (gN g 3)) f) (nI (gN g (58 + 51 * f + 1))) t).2)), none, some (.int (nI t)), some (.long (rWg g (rLay g n (zJ M 954) (gN g 3)) f t)), none]) rfl ?_
        refine s_lload (zdk hX9_wish_0 52 rfl) rfl ?_
        refine s_lload (zdk hX9_wish_0 53 rfl) rfl ?_
        refine s_lcmp (zdk hX9_wish_0 54 rfl) ?_
        refine s_if_gt 105 (zdk hX9_wish_0 55 rfl) (by decide) (fun c99 => ?_) (fun c99 => ?_)
        · have e2 : (zbt (rWg g (rLay g n (zJ M 954) (gN g 3)) f) (nI (gN g (58 + 51 * f + 1))) (t + 1)) = (nI t, rWg g (rLay g n (zJ M 954) (gN g 3)) f t) := if_neg (lcmp_gt' c99)
          refine s_lload (zdk hX9_wish_0 57 rfl) rfl ?_
          refine s_lstore (zdk hX9_wish_0 58 rfl) (Nat.le_of_ble_eq_true rfl) ?_
          refine s_ls (ls' := [some (.ref 941), some (.int (nI f)), some (.int (nI n)), some (.int ((zbt (rWg g (rLay g n (zJ M 954) (gN g 3)) f) (nI (gN g (58 + 51 * f + 1))) t).1)), some (.long (rWg g (rLay g n (zJ M 954) (gN g 3)) f t)), none, some (.int (nI t)), some (.long (rWg g (rLay g n (zJ M 954) (gN g 3)) f t)), none]) rfl ?_
          refine s_iload (zdk hX9_wish_0 59 rfl) rfl ?_
          refine s_istore_n (zdk hX9_wish_1 0 rfl) (Nat.le_of_ble_eq_true rfl) ?_
          refine s_ls (ls' := [some (.ref 941), some (.int (nI f)), some (.int (nI n)), some (.int (nI t)), some (.long (rWg g (rLay g n (zJ M 954) (gN g 3)) f t)), none, some (.int (nI t)), some (.long (rWg g (rLay g n (zJ M 954) (gN g 3)) f t)), none]) rfl ?_
          refine s_ls (ls' := [some (.ref 941), some (.int (nI f)), some (.int (nI n)), some (.int ((zbt (rWg g (rLay g n (zJ M 954) (gN g 3)) f) (nI (gN g (58 + 51 * f + 1))) (t + 1)).1)), some (.long ((zbt (rWg g (rLay g n (zJ M 954) (gN g 3)) f) (nI (gN g (58 + 51 * f + 1))) (t + 1)).2)), none, some (.int (nI t)), some (.long (rWg g (rLay g n (zJ M 954) (gN g 3)) f t)), none]) (by rw [e2]) ?_
          refine s_iinc (r := nI (t + 1)) (zdk hX9_wish_1 1 rfl) (Nat.le_of_ble_eq_true rfl) rfl (nI_1 _) ?_
          refine s_ls (ls' := [some (.ref 941), some (.int (nI f)), some (.int (nI n)), some (.int ((zbt (rWg g (rLay g n (zJ M 954) (gN g 3)) f) (nI (gN g (58 + 51 * f + 1))) (t + 1)).1)), some (.long ((zbt (rWg g (rLay g n (zJ M 954) (gN g 3)) f) (nI (gN g (58 + 51 * f + 1))) (t + 1)).2)), none, some (.int (nI (t + 1))), some (.long (rWg g (rLay g n (zJ M 954) (gN g 3)) f t)), none]) rfl ?_
          refine s_goto 55 (zdk hX9_wish_1 2 rfl) (by decide) ?_
          exact ih (t + 1) _ _ (by omega) (by omega)
        · have e2 : (zbt (rWg g (rLay g n (zJ M 954) (gN g 3)) f) (nI (gN g (58 + 51 * f + 1))) (t + 1)) = (zbt (rWg g (rLay g n (zJ M 954) (gN g 3)) f) (nI (gN g (58 + 51 * f + 1))) t) := if_pos (lcmp_le' c99)
          refine s_goto 112 (zdk hX9_wish_0 56 rfl) (by decide) ?_
          refine s_ls (ls' := [some (.ref 941), some (.int (nI f)), some (.int (nI n)), some (.int ((zbt (rWg g (rLay g n (zJ M 954) (gN g 3)) f) (nI (gN g (58 + 51 * f + 1))) (t + 1)).1)), some (.long ((zbt (rWg g (rLay g n (zJ M 954) (gN g 3)) f) (nI (gN g (58 + 51 * f + 1))) (t + 1)).2)), none, some (.int (nI t)), some (.long (rWg g (rLay g n (zJ M 954) (gN g 3)) f t)), none]) (by rw [e2]) ?_
          refine s_iinc (r := nI (t + 1)) (zdk hX9_wish_1 1 rfl) (Nat.le_of_ble_eq_true rfl) rfl (nI_1 _) ?_
          refine s_ls (ls' := [some (.ref 941), some (.int (nI f)), some (.int (nI n)), some (.int ((zbt (rWg g (rLay g n (zJ M 954) (gN g 3)) f) (nI (gN g (58 + 51 * f + 1))) (t + 1)).1)), some (.long ((zbt (rWg g (rLay g n (zJ M 954) (gN g 3)) f) (nI (gN g (58 + 51 * f + 1))) (t + 1)).2)), none, some (.int (nI (t + 1))), some (.long (rWg g (rLay g n (zJ M 954) (gN g 3)) f t)), none]) rfl ?_
          refine s_goto 55 (zdk hX9_wish_1 2 rfl) (by decide) ?_
          exact ih (t + 1) _ _ (by omega) (by omega)
theorem c_X9_wish (hl : l.stackTraces = false) {M : zMem} (hm : mSh M) {g : Nat → Int64} (hb : gBd g) {f n : Nat} (hf : f < gN g 3) (hn1 : 1 ≤ n) (hn24 : n ≤ 24) : zCm l G mX9_wish 6 170 0 0 [.ref 941, .int (nI f), .int (nI n)] (zsL M 942 g) (zD (some (.int (zbt (rWg g (rLay g n (zJ M 954) (gN g 3)) f) (nI (gN g (58 + 51 * f + 1))) (gN g 2)).1)) (zsL (zsL (zsI M 941 6 (nI 0)) 954 (rLay g n (zJ M 954) (gN g 3))) 942 g)) := by
  refine zCd.of (ls0 := [some (.ref 941), some (.int (nI f)), some (.int (nI n)), none, none, none, none, none, none]) (by decide +kernel) rfl hl rfl (Nat.le_of_ble_eq_true rfl) rfl ?_
  have hn2 := hb.2.2.1.2
  have ht4 := hb.2.1.2
  have hcy := hb.1.2.2
  have hpe := hb.2.2.2.1.2
  have ho := hb.2.2.2.2.2.1 f hf
  refine s_aload_n (zdk hX9_wish_0 0 rfl) rfl ?_
  refine s_aload_n (zdk hX9_wish_0 1 rfl) rfl ?_
  refine s_iload_n (zdk hX9_wish_0 2 rfl) rfl ?_
  refine s_callV0 (ci := 9) [.int (nI f)] (zdk hX9_wish_0 3 rfl) cw_X9_254 (hm.1) (by decide) rfl rfl rfl (Nat.le_of_ble_eq_true rfl) (by decide) (c_X9_isFile hl (M := M) (g := g) hm hb (nI f)) ?_
  refine s_if_ne 13 (zdk hX9_wish_0 4 rfl) (by decide) (fun c6 => ?_) (fun c6 => ?_)
  · have b6 : inN (nI f) (gN g 3) := b01_ne c6
    refine s_iload_n (zdk hX9_wish_0 7 rfl) rfl ?_
    refine s_callS0 [.int (nI n)] (zdk hX9_wish_0 8 rfl) cw_X9_320 rfl (Nat.le_of_ble_eq_true rfl) (by decide) (c_X9_isSpan hl (zsL M 942 g) (nI n)) ?_
    refine s_if_eq 24 (zdk hX9_wish_0 9 rfl) (by decide) (fun c17 => ?_) (fun c17 => ?_)
    · have b17 : ¬ (nI 1 ≤ nI n ∧ nI n ≤ nI 24) := b01_eq c17
      exact absurd ⟨nI_le hn1 (by omega), nI_le hn24 (by omega)⟩ b17
    · have b17 : nI 1 ≤ nI n ∧ nI n ≤ nI 24 := b01_ne c17
      refine s_iconstv (v := nI 0) (zdk hX9_wish_0 10 rfl) zc_iconst_0 ?_
      refine s_goto 25 (zdk hX9_wish_0 11 rfl) (by decide) ?_
      refine s_putI (zdk hX9_wish_0 13 rfl) fw_X9_69 rfl pw_9_6 (hm.1) ?_
      refine s_mem (M' := (zsL (zsI M 941 6 (nI 0)) 942 g)) rfl ?_
      refine s_aload_n (zdk hX9_wish_0 14 rfl) rfl ?_
      refine s_getI (zdk hX9_wish_0 15 rfl) fw_X9_69 rfl (hm.1) ?_
      refine s_topi (b := nI 0) ((congrFun (zI_Ie (M := M) (a := 941) (k := 6) (v := (nI 0))) 6).trans zw1_e) ?_
      refine s_if_le 37 (zdk hX9_wish_0 16 rfl) (by decide) (fun c32 => ?_) (fun c32 => ?_)
      · refine s_aload_n (zdk hX9_wish_0 19 rfl) rfl ?_
        refine s_iload_n (zdk hX9_wish_0 20 rfl) rfl ?_
        refine s_callV0 (ci := 9) [.int (nI n)] (zdk hX9_wish_0 21 rfl) cw_X9_297 (hm.1) (by decide) rfl rfl rfl (Nat.le_of_ble_eq_true rfl) (by decide) (c_X9_laysCosts hl (M := (zsI M 941 6 (nI 0))) (g := g) hm hb (n := n) (by omega)) ?_
        refine s_aload_n (zdk hX9_wish_0 22 rfl) rfl ?_
        refine s_iload_n (zdk hX9_wish_0 23 rfl) rfl ?_
        refine s_iconstv (v := nI 1) (zdk hX9_wish_0 24 rfl) zc_iconst_1 ?_
        refine s_callV0 (ci := 9) [.int (nI f), .int (nI 1)] (zdk hX9_wish_0 25 rfl) cw_X9_211 (hm.1) (by decide) rfl rfl rfl (Nat.le_of_ble_eq_true rfl) (by decide) (c_X9_of hl (M := (zsL (zsI M 941 6 (nI 0)) 954 (rLay g n (zJ M 954) (gN g 3)))) (g := g) hm (f := f) (k := 1) (by omega)) ?_
        refine s_topi (b := nI (gN g (58 + 51 * f + 1))) (ho.1.1) ?_
        refine s_istore_n (zdk hX9_wish_0 26 rfl) (Nat.le_of_ble_eq_true rfl) ?_
        refine s_ls (ls' := [some (.ref 941), some (.int (nI f)), some (.int (nI n)), some (.int (nI (gN g (58 + 51 * f + 1)))), none, none, none, none, none]) rfl ?_
        refine s_lconstv (v := lN 0) (zdk hX9_wish_0 27 rfl) rfl ?_
        refine s_lstore (zdk hX9_wish_0 28 rfl) (Nat.le_of_ble_eq_true rfl) ?_
        refine s_ls (ls' := [some (.ref 941), some (.int (nI f)), some (.int (nI n)), some (.int (nI (gN g (58 + 51 * f + 1)))), some (.long (lN 0)), none, none, none, none]) rfl ?_
        refine s_iconstv (v := nI 0) (zdk hX9_wish_0 29 rfl) zc_iconst_0 ?_
        refine s_istore (zdk hX9_wish_0 30 rfl) (Nat.le_of_ble_eq_true rfl) ?_
        refine s_ls (ls' := [some (.ref 941), some (.int (nI f)), some (.int (nI n)), some (.int (nI (gN g (58 + 51 * f + 1)))), some (.long (lN 0)), none, some (.int (nI 0)), none, none]) rfl ?_
        exact w_X9_wish_55 hl hm hb hf hn1 hn24 (gN g 2 + 1) 0 _ _ (by omega) (by omega)
      · exact absurd (by decide) c32
  · have b6 : ¬ (inN (nI f) (gN g 3)) := b01_eq c6
    exact absurd (inN_of hf (by omega)) b6
end

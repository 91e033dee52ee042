/-! ===== the reference: the best exchange, a step, going on paper ===== -/
def zGp (M : zMem) (f a t : Nat) (sz : Int32) : zMem := zsI (zsI (zsI (zsI M 953 a (zI M 953 a + sz)) 953 t (zI (zsI M 953 a (zI M 953 a + sz)) 953 t - sz)) 948 f (nI t)) 952 f (nI 1)
def rStp (g ot : Nat → Int64) (pa : Nat → Nat) (inn fr : Nat → Int32) (b : zBt) : zBt := if (rmF g ot pa inn fr (gN g 3) (b.1, b.2.1, b.2.2.1, lN 0)).2.2.2 = lN 0 then rxF g ot pa inn fr (gN g 3) (rmF g ot pa inn fr (gN g 3) (b.1, b.2.1, b.2.2.1, lN 0)) else rmF g ot pa inn fr (gN g 3) (b.1, b.2.1, b.2.2.1, lN 0)
theorem zRB_28 {M : zMem} {b : zBt} {s : Int64} {g : Nat → Int64} : zsL (zsJ (zRB M b) 941 28 s) 942 g = zsL (zRB M (b.1, b.2.1, b.2.2.1, s)) 942 g := by
  congr 1
  unfold zRB zsJ
  congr 2
  exact zu_zu _ _ _ _ _
section
variable {l : Launch} {G : zG}
theorem w_X9_findsExchange_14 (hl : l.stackTraces = false) {M : zMem} (hm : mSh M) {g : Nat → Int64} (hb : gBd g) (hi4 : g 4 = (its g 4).toInt64) {pa : Nat → Nat} (hpa : ∀ f, f < gN g 3 → zI M 948 f = nI (pa f) ∧ pa f < gN g 2) (b : zBt) {i : Nat} (hi0 : i < gN g 3) {Q : zOut → zMem → Prop} (kk : ∀ x3 x4 x5 : Option Value, zS l G mX9_findsExchange 4 100 0 0 132 [some (.ref 941), some (.int (nI i)), some (.int (nI (gN g 3))), x3, x4, x5] [] (zsL (zRB M (rxJ g (zJ M 954) pa (zI M 952) (zI M 953) i (gN g 3 - (i + 1)) (rxF g (zJ M 954) pa (zI M 952) (zI M 953) i b))) 942 g) Q) : ∀ (k : Nat) (d : Nat) (x3 x4 x5 : Option Value), d ≤ gN g 3 - (i + 1) → gN g 3 - (i + 1) - d < k → zS l G mX9_findsExchange 4 100 0 0 14 [some (.ref 941), some (.int (nI i)), some (.int (nI (i + 1 + d))), x3, x4, x5] [] (zsL (zRB M (rxJ g (zJ M 954) pa (zI M 952) (zI M 953) i d (rxF g (zJ M 954) pa (zI M 952) (zI M 953) i b))) 942 g) Q := by
  intro k
  induction k with
  | zero => intros; omega
  | succ k ih =>
    intro d x3 x4 x5 hi hk
    have hn2 := hb.2.2.1.2
    have ht4 := hb.2.1.2
    have hp1 := (hpa i hi0).2
    have hp2 : ∀ j, j < gN g 3 → pa j < 4 := fun j hj => by have := (hpa j hj).2; omega
    refine s_iload_n (zdk hX9_findsExchange_0 10 rfl) rfl ?_
    refine s_aload_n (zdk hX9_findsExchange_0 11 rfl) rfl ?_
    refine s_callV0 (ci := 9) [] (zdk hX9_findsExchange_0 12 rfl) cw_X9_180 (hm.1) (by decide) rfl rfl rfl (Nat.le_of_ble_eq_true rfl) (by decide) (c_X9_files hl (M := (zRB M (rxJ g (zJ M 954) pa (zI M 952) (zI M 953) i d (rxF g (zJ M 954) pa (zI M 952) (zI M 953) i b)))) (g := g) hm hb) ?_
    refine s_icmp_ge 132 (zdk hX9_findsExchange_0 13 rfl) (by decide) (fun c19 => ?_) (fun c19 => ?_)
    · have n19 : gN g 3 ≤ i + 1 + d := nle c19 (by omega) (by omega)
      obtain rfl : d = gN g 3 - (i + 1) := by omega
      refine s_ls (ls' := [some (.ref 941), some (.int (nI i)), some (.int (nI (gN g 3))), x3, x4, x5]) (by rw [show i + 1 + (gN g 3 - (i + 1)) = gN g 3 by omega]) ?_
      exact kk x3 x4 x5
    · have n19 : i + 1 + d < gN g 3 := nlt c19 (by omega) (by omega)
      have hp3 := hp2 (i + 1 + d) n19
      refine s_aload_n (zdk hX9_findsExchange_0 14 rfl) rfl ?_
      refine s_getR (zdk hX9_findsExchange_0 15 rfl) fw_X9_34 rfl (hm.1) (show _ = some 948 from (hm.r (i := 6) rfl).1) ?_
      refine s_iload_n (zdk hX9_findsExchange_0 16 rfl) rfl ?_
      refine s_ialoadN (N := 20) (j := i) (zdk hX9_findsExchange_0 17 rfl) ((hm.r (i := 6) rfl).2.1) ((hm.r (i := 6) rfl).2.2) (by omega) (by decide) ?_
      refine s_topi (b := nI (pa i)) ((congrFun (zRB_I (by decide)) _).trans (hpa _ (by omega)).1) ?_
      refine s_istore_n (zdk hX9_findsExchange_0 18 rfl) (Nat.le_of_ble_eq_true rfl) ?_
      refine s_ls (ls' := [some (.ref 941), some (.int (nI i)), some (.int (nI (i + 1 + d))), some (.int (nI (pa i))), x4, x5]) rfl ?_
      refine s_aload_n (zdk hX9_findsExchange_0 19 rfl) rfl ?_
      refine s_getR (zdk hX9_findsExchange_0 20 rfl) fw_X9_34 rfl (hm.1) (show _ = some 948 from (hm.r (i := 6) rfl).1) ?_
      refine s_iload_n (zdk hX9_findsExchange_0 21 rfl) rfl ?_
      refine s_ialoadN (N := 20) (j := i + 1 + d) (zdk hX9_findsExchange_0 22 rfl) ((hm.r (i := 6) rfl).2.1) ((hm.r (i := 6) rfl).2.2) (by omega) (by decide) ?_
      refine s_topi (b := nI (pa (i + 1 + d))) ((congrFun (zRB_I (by decide)) _).trans (hpa _ (by omega)).1) ?_
      refine s_istore (zdk hX9_findsExchange_0 23 rfl) (Nat.le_of_ble_eq_true rfl) ?_
      refine s_ls (ls' := [some (.ref 941), some (.int (nI i)), some (.int (nI (i + 1 + d))), some (.int (nI (pa i))), some (.int (nI (pa (i + 1 + d)))), x5]) rfl ?_
      refine s_aload_n (zdk hX9_findsExchange_0 24 rfl) rfl ?_
      refine s_iload_n (zdk hX9_findsExchange_0 25 rfl) rfl ?_
      refine s_callV0 (ci := 9) [.int (nI i)] (zdk hX9_findsExchange_0 26 rfl) cw_X9_287 (hm.1) (by decide) rfl rfl rfl (Nat.le_of_ble_eq_true rfl) (by decide) (c_X9_canGo hl (M := (zRB M (rxJ g (zJ M 954) pa (zI M 952) (zI M 953) i d (rxF g (zJ M 954) pa (zI M 952) (zI M 953) i b)))) (g := g) hm hb hi4 (f := i) (by omega)) ?_
      refine s_if_eq 126 (zdk hX9_findsExchange_0 27 rfl) (by decide) (fun c42 => ?_) (fun c42 => ?_)
      · have b42 : ¬ (¬ nI (gN g 4) < gf g i 3 ∧ zI (zRB M (rxJ g (zJ M 954) pa (zI M 952) (zI M 953) i d (rxF g (zJ M 954) pa (zI M 952) (zI M 953) i b))) 952 i = 0) := b01_eq c42
        rw [show zI (zRB M (rxJ g (zJ M 954) pa (zI M 952) (zI M 953) i d (rxF g (zJ M 954) pa (zI M 952) (zI M 953) i b))) 952 = zI M 952 from zRB_I0 (by decide)] at b42
        have e1 : (rxJ g (zJ M 954) pa (zI M 952) (zI M 953) i (d + 1) (rxF g (zJ M 954) pa (zI M 952) (zI M 953) i b)) = (rxJ g (zJ M 954) pa (zI M 952) (zI M 953) i d (rxF g (zJ M 954) pa (zI M 952) (zI M 953) i b)) := if_neg (fun q => b42 q.1)
        refine s_mem (M' := (zsL (zRB M (rxJ g (zJ M 954) pa (zI M 952) (zI M 953) i (d + 1) (rxF g (zJ M 954) pa (zI M 952) (zI M 953) i b))) 942 g)) (by rw [e1]) ?_
        refine s_iinc (r := nI (i + 1 + d + 1)) (zdk hX9_findsExchange_1 15 rfl) (Nat.le_of_ble_eq_true rfl) rfl (nI_1 _) ?_
        refine s_ls (ls' := [some (.ref 941), some (.int (nI i)), some (.int (nI (i + 1 + d + 1))), some (.int (nI (pa i))), some (.int (nI (pa (i + 1 + d)))), x5]) rfl ?_
        refine s_goto 14 (zdk hX9_findsExchange_1 16 rfl) (by decide) ?_
        exact ih (d + 1) _ _ _ (by omega) (by omega)
      · have b42 : ¬ nI (gN g 4) < gf g i 3 ∧ zI (zRB M (rxJ g (zJ M 954) pa (zI M 952) (zI M 953) i d (rxF g (zJ M 954) pa (zI M 952) (zI M 953) i b))) 952 i = 0 := b01_ne c42
        rw [show zI (zRB M (rxJ g (zJ M 954) pa (zI M 952) (zI M 953) i d (rxF g (zJ M 954) pa (zI M 952) (zI M 953) i b))) 952 = zI M 952 from zRB_I0 (by decide)] at b42
        refine s_aload_n (zdk hX9_findsExchange_0 28 rfl) rfl ?_
        refine s_iload_n (zdk hX9_findsExchange_0 29 rfl) rfl ?_
        refine s_callV0 (ci := 9) [.int (nI (i + 1 + d))] (zdk hX9_findsExchange_0 30 rfl) cw_X9_287 (hm.1) (by decide) rfl rfl rfl (Nat.le_of_ble_eq_true rfl) (by decide) (c_X9_canGo hl (M := (zRB M (rxJ g (zJ M 954) pa (zI M 952) (zI M 953) i d (rxF g (zJ M 954) pa (zI M 952) (zI M 953) i b)))) (g := g) hm hb hi4 (f := (i + 1 + d)) (by omega)) ?_
        refine s_if_eq 126 (zdk hX9_findsExchange_0 31 rfl) (by decide) (fun c50 => ?_) (fun c50 => ?_)
        · have b50 : ¬ (¬ nI (gN g 4) < gf g (i + 1 + d) 3 ∧ zI (zRB M (rxJ g (zJ M 954) pa (zI M 952) (zI M 953) i d (rxF g (zJ M 954) pa (zI M 952) (zI M 953) i b))) 952 (i + 1 + d) = 0) := b01_eq c50
          rw [show zI (zRB M (rxJ g (zJ M 954) pa (zI M 952) (zI M 953) i d (rxF g (zJ M 954) pa (zI M 952) (zI M 953) i b))) 952 = zI M 952 from zRB_I0 (by decide)] at b50
          have e1 : (rxJ g (zJ M 954) pa (zI M 952) (zI M 953) i (d + 1) (rxF g (zJ M 954) pa (zI M 952) (zI M 953) i b)) = (rxJ g (zJ M 954) pa (zI M 952) (zI M 953) i d (rxF g (zJ M 954) pa (zI M 952) (zI M 953) i b)) := if_neg (fun q => b50 q.2.1)
          refine s_mem (M' := (zsL (zRB M (rxJ g (zJ M 954) pa (zI M 952) (zI M 953) i (d + 1) (rxF g (zJ M 954) pa (zI M 952) (zI M 953) i b))) 942 g)) (by rw [e1]) ?_
          refine s_iinc (r := nI (i + 1 + d + 1)) (zdk hX9_findsExchange_1 15 rfl) (Nat.le_of_ble_eq_true rfl) rfl (nI_1 _) ?_
          refine s_ls (ls' := [some (.ref 941), some (.int (nI i)), some (.int (nI (i + 1 + d + 1))), some (.int (nI (pa i))), some (.int (nI (pa (i + 1 + d)))), x5]) rfl ?_
          refine s_goto 14 (zdk hX9_findsExchange_1 16 rfl) (by decide) ?_
          exact ih (d + 1) _ _ _ (by omega) (by omega)
        · have b50 : ¬ nI (gN g 4) < gf g (i + 1 + d) 3 ∧ zI (zRB M (rxJ g (zJ M 954) pa (zI M 952) (zI M 953) i d (rxF g (zJ M 954) pa (zI M 952) (zI M 953) i b))) 952 (i + 1 + d) = 0 := b01_ne c50
          rw [show zI (zRB M (rxJ g (zJ M 954) pa (zI M 952) (zI M 953) i d (rxF g (zJ M 954) pa (zI M 952) (zI M 953) i b))) 952 = zI M 952 from zRB_I0 (by decide)] at b50
          refine s_iload_n (zdk hX9_findsExchange_0 32 rfl) rfl ?_
          refine s_iload (zdk hX9_findsExchange_0 33 rfl) rfl ?_
          refine s_icmp_ne 62 (zdk hX9_findsExchange_0 34 rfl) (by decide) (fun c56 => ?_) (fun c56 => ?_)
          · have n56 : ¬ (pa i) = pa (i + 1 + d) := nne c56
            refine s_aload_n (zdk hX9_findsExchange_0 36 rfl) rfl ?_
            refine s_iload_n (zdk hX9_findsExchange_0 37 rfl) rfl ?_
            refine s_iconstv (v := nI 0) (zdk hX9_findsExchange_0 38 rfl) zc_iconst_0 ?_
            refine s_callV0 (ci := 9) [.int (nI (i + 1 + d)), .int (nI 0)] (zdk hX9_findsExchange_0 39 rfl) cw_X9_211 (hm.1) (by decide) rfl rfl rfl (Nat.le_of_ble_eq_true rfl) (by decide) (c_X9_of hl (M := (zRB M (rxJ g (zJ M 954) pa (zI M 952) (zI M 953) i d (rxF g (zJ M 954) pa (zI M 952) (zI M 953) i b)))) (g := g) hm (f := (i + 1 + d)) (k := 0) (by omega)) ?_
            refine s_aload_n (zdk hX9_findsExchange_0 40 rfl) rfl ?_
            refine s_iload_n (zdk hX9_findsExchange_0 41 rfl) rfl ?_
            refine s_iconstv (v := nI 0) (zdk hX9_findsExchange_0 42 rfl) zc_iconst_0 ?_
            refine s_callV0 (ci := 9) [.int (nI i), .int (nI 0)] (zdk hX9_findsExchange_0 43 rfl) cw_X9_211 (hm.1) (by decide) rfl rfl rfl (Nat.le_of_ble_eq_true rfl) (by decide) (c_X9_of hl (M := (zRB M (rxJ g (zJ M 954) pa (zI M 952) (zI M 953) i d (rxF g (zJ M 954) pa (zI M 952) (zI M 953) i b)))) (g := g) hm (f := i) (k := 0) (by omega)) ?_
            refine s_isub (zdk hX9_findsExchange_0 44 rfl) ?_
            refine s_istore (zdk hX9_findsExchange_0 45 rfl) (Nat.le_of_ble_eq_true rfl) ?_
            refine s_ls (ls' := [some (.ref 941), some (.int (nI i)), some (.int (nI (i + 1 + d))), some (.int (nI (pa i))), some (.int (nI (pa (i + 1 + d)))), some (.int ((gf g (i + 1 + d) 0) - (gf g i 0)))]) rfl ?_
            refine s_aload_n (zdk hX9_findsExchange_0 46 rfl) rfl ?_
            refine s_getR (zdk hX9_findsExchange_0 47 rfl) fw_X9_49 rfl (hm.1) (show _ = some 953 from (hm.r (i := 11) rfl).1) ?_
            refine s_iload_n (zdk hX9_findsExchange_0 48 rfl) rfl ?_
            refine s_ialoadN (N := 4) (j := pa i) (zdk hX9_findsExchange_0 49 rfl) ((hm.r (i := 11) rfl).2.1) ((hm.r (i := 11) rfl).2.2) (by omega) (by decide) ?_
            refine s_topi (b := zI M 953 (pa i)) (congrFun (zRB_I (by decide)) _) ?_
            refine s_iload (zdk hX9_findsExchange_0 50 rfl) rfl ?_
            refine s_icmp_lt 126 (zdk hX9_findsExchange_0 51 rfl) (by decide) (fun c85 => ?_) (fun c85 => ?_)
            · have e1 : (rxJ g (zJ M 954) pa (zI M 952) (zI M 953) i (d + 1) (rxF g (zJ M 954) pa (zI M 952) (zI M 953) i b)) = (rxJ g (zJ M 954) pa (zI M 952) (zI M 953) i d (rxF g (zJ M 954) pa (zI M 952) (zI M 953) i b)) := if_neg (fun q => q.2.2.2.1 c85)
              refine s_mem (M' := (zsL (zRB M (rxJ g (zJ M 954) pa (zI M 952) (zI M 953) i (d + 1) (rxF g (zJ M 954) pa (zI M 952) (zI M 953) i b))) 942 g)) (by rw [e1]) ?_
              refine s_iinc (r := nI (i + 1 + d + 1)) (zdk hX9_findsExchange_1 15 rfl) (Nat.le_of_ble_eq_true rfl) rfl (nI_1 _) ?_
              refine s_ls (ls' := [some (.ref 941), some (.int (nI i)), some (.int (nI (i + 1 + d + 1))), some (.int (nI (pa i))), some (.int (nI (pa (i + 1 + d)))), some (.int ((gf g (i + 1 + d) 0) - (gf g i 0)))]) rfl ?_
              refine s_goto 14 (zdk hX9_findsExchange_1 16 rfl) (by decide) ?_
              exact ih (d + 1) _ _ _ (by omega) (by omega)
            · refine s_aload_n (zdk hX9_findsExchange_0 52 rfl) rfl ?_
              refine s_getR (zdk hX9_findsExchange_0 53 rfl) fw_X9_49 rfl (hm.1) (show _ = some 953 from (hm.r (i := 11) rfl).1) ?_
              refine s_iload (zdk hX9_findsExchange_0 54 rfl) rfl ?_
              refine s_ialoadN (N := 4) (j := pa (i + 1 + d)) (zdk hX9_findsExchange_0 55 rfl) ((hm.r (i := 11) rfl).2.1) ((hm.r (i := 11) rfl).2.2) (by omega) (by decide) ?_
              refine s_topi (b := zI M 953 (pa (i + 1 + d))) (congrFun (zRB_I (by decide)) _) ?_
              refine s_iload (zdk hX9_findsExchange_0 56 rfl) rfl ?_
              refine s_ineg (zdk hX9_findsExchange_0 57 rfl) ?_
              refine s_icmp_lt 126 (zdk hX9_findsExchange_0 58 rfl) (by decide) (fun c98 => ?_) (fun c98 => ?_)
              · have e1 : (rxJ g (zJ M 954) pa (zI M 952) (zI M 953) i (d + 1) (rxF g (zJ M 954) pa (zI M 952) (zI M 953) i b)) = (rxJ g (zJ M 954) pa (zI M 952) (zI M 953) i d (rxF g (zJ M 954) pa (zI M 952) (zI M 953) i b)) := if_neg (fun q => q.2.2.2.2 c98)
                refine s_mem (M' := (zsL (zRB M (rxJ g (zJ M 954) pa (zI M 952) (zI M 953) i (d + 1) (rxF g (zJ M 954) pa (zI M 952) (zI M 953) i b))) 942 g)) (by rw [e1]) ?_
                refine s_iinc (r := nI (i + 1 + d + 1)) (zdk hX9_findsExchange_1 15 rfl) (Nat.le_of_ble_eq_true rfl) rfl (nI_1 _) ?_
                refine s_ls (ls' := [some (.ref 941), some (.int (nI i)), some (.int (nI (i + 1 + d + 1))), some (.int (nI (pa i))), some (.int (nI (pa (i + 1 + d)))), some (.int ((gf g (i + 1 + d) 0) - (gf g i 0)))]) rfl ?_
                refine s_goto 14 (zdk hX9_findsExchange_1 16 rfl) (by decide) ?_
                exact ih (d + 1) _ _ _ (by omega) (by omega)
              · have hC : (¬ nI (gN g 4) < gf g i 3 ∧ zI M 952 i = 0) ∧ (¬ nI (gN g 4) < gf g (i + 1 + d) 3 ∧ zI M 952 (i + 1 + d) = 0) ∧ ¬ pa i = pa (i + 1 + d) ∧ ¬ zI M 953 (pa i) < gf g (i + 1 + d) 0 - gf g i 0 ∧ ¬ zI M 953 (pa (i + 1 + d)) < -(gf g (i + 1 + d) 0 - gf g i 0) := ⟨b42, b50, n56, c85, c98⟩
                refine s_aload_n (zdk hX9_findsExchange_0 59 rfl) rfl ?_
                refine s_iload_n (zdk hX9_findsExchange_1 0 rfl) rfl ?_
                refine s_iload_n (zdk hX9_findsExchange_1 1 rfl) rfl ?_
                refine s_iload (zdk hX9_findsExchange_1 2 rfl) rfl ?_
                refine s_aload_n (zdk hX9_findsExchange_1 3 rfl) rfl ?_
                refine s_iload_n (zdk hX9_findsExchange_1 4 rfl) rfl ?_
                refine s_iload_n (zdk hX9_findsExchange_1 5 rfl) rfl ?_
                refine s_iload (zdk hX9_findsExchange_1 6 rfl) rfl ?_
                refine s_callV0 (ci := 9) [.int (nI i), .int (nI (pa i)), .int (nI (pa (i + 1 + d)))] (zdk hX9_findsExchange_1 7 rfl) cw_X9_290 (hm.1) (by decide) rfl rfl rfl (Nat.le_of_ble_eq_true rfl) (by decide) (c_X9_savesBy hl (M := (zRB M (rxJ g (zJ M 954) pa (zI M 952) (zI M 953) i d (rxF g (zJ M 954) pa (zI M 952) (zI M 953) i b)))) (g := g) hm (f := i) (a := pa i) (c := pa (i + 1 + d)) (by omega) (by have := (hpa i (by omega)).2; omega) (by have := (hpa (i + 1 + d) (by omega)).2; omega)) ?_
                refine s_topl (b := rSv g (zJ M 954) i (pa i) (pa (i + 1 + d))) (by rw [show zJ (zRB M (rxJ g (zJ M 954) pa (zI M 952) (zI M 953) i d (rxF g (zJ M 954) pa (zI M 952) (zI M 953) i b))) 954 = zJ M 954 from zJ_Jn (by decide)]) ?_
                refine s_aload_n (zdk hX9_findsExchange_1 8 rfl) rfl ?_
                refine s_iload_n (zdk hX9_findsExchange_1 9 rfl) rfl ?_
                refine s_iload (zdk hX9_findsExchange_1 10 rfl) rfl ?_
                refine s_iload_n (zdk hX9_findsExchange_1 11 rfl) rfl ?_
                refine s_callV0 (ci := 9) [.int (nI (i + 1 + d)), .int (nI (pa (i + 1 + d))), .int (nI (pa i))] (zdk hX9_findsExchange_1 12 rfl) cw_X9_290 (hm.1) (by decide) rfl rfl rfl (Nat.le_of_ble_eq_true rfl) (by decide) (c_X9_savesBy hl (M := (zRB M (rxJ g (zJ M 954) pa (zI M 952) (zI M 953) i d (rxF g (zJ M 954) pa (zI M 952) (zI M 953) i b)))) (g := g) hm (f := (i + 1 + d)) (a := pa (i + 1 + d)) (c := pa i) (by omega) (by have := (hpa (i + 1 + d) (by omega)).2; omega) (by have := (hpa i (by omega)).2; omega)) ?_
                refine s_topl (b := rSv g (zJ M 954) (i + 1 + d) (pa (i + 1 + d)) (pa i)) (by rw [show zJ (zRB M (rxJ g (zJ M 954) pa (zI M 952) (zI M 953) i d (rxF g (zJ M 954) pa (zI M 952) (zI M 953) i b))) 954 = zJ M 954 from zJ_Jn (by decide)]) ?_
                refine s_ladd (zdk hX9_findsExchange_1 13 rfl) ?_
                refine s_callV0 (ci := 9) [.int (nI i), .int (nI (i + 1 + d)), .int (nI (pa (i + 1 + d))), .long ((rSv g (zJ M 954) i (pa i) (pa (i + 1 + d))) + (rSv g (zJ M 954) (i + 1 + d) (pa (i + 1 + d)) (pa i)))] (zdk hX9_findsExchange_1 14 rfl) cw_X9_293 (hm.1) (by decide) rfl rfl rfl (Nat.le_of_ble_eq_true rfl) (by decide) (c_X9_found hl (M := M) (g := g) hm (b := (rxJ g (zJ M 954) pa (zI M 952) (zI M 953) i d (rxF g (zJ M 954) pa (zI M 952) (zI M 953) i b))) (nI i) (nI (i + 1 + d)) (nI (pa (i + 1 + d))) (rSv g (zJ M 954) i (pa i) (pa (i + 1 + d)) + rSv g (zJ M 954) (i + 1 + d) (pa (i + 1 + d)) (pa i))) ?_
                have e1 : (rxJ g (zJ M 954) pa (zI M 952) (zI M 953) i (d + 1) (rxF g (zJ M 954) pa (zI M 952) (zI M 953) i b)) = (rFd (rxJ g (zJ M 954) pa (zI M 952) (zI M 953) i d (rxF g (zJ M 954) pa (zI M 952) (zI M 953) i b)) (nI i) (nI (i + 1 + d)) (nI (pa (i + 1 + d))) (rSv g (zJ M 954) i (pa i) (pa (i + 1 + d)) + rSv g (zJ M 954) (i + 1 + d) (pa (i + 1 + d)) (pa i))) := if_pos hC
                refine s_mem (M' := (zsL (zRB M (rxJ g (zJ M 954) pa (zI M 952) (zI M 953) i (d + 1) (rxF g (zJ M 954) pa (zI M 952) (zI M 953) i b))) 942 g)) (by rw [e1]) ?_
                refine s_iinc (r := nI (i + 1 + d + 1)) (zdk hX9_findsExchange_1 15 rfl) (Nat.le_of_ble_eq_true rfl) rfl (nI_1 _) ?_
                refine s_ls (ls' := [some (.ref 941), some (.int (nI i)), some (.int (nI (i + 1 + d + 1))), some (.int (nI (pa i))), some (.int (nI (pa (i + 1 + d)))), some (.int ((gf g (i + 1 + d) 0) - (gf g i 0)))]) rfl ?_
                refine s_goto 14 (zdk hX9_findsExchange_1 16 rfl) (by decide) ?_
                exact ih (d + 1) _ _ _ (by omega) (by omega)
          · have n56 : pa i = pa (i + 1 + d) := neq c56 (by omega) (by omega)
            have e1 : (rxJ g (zJ M 954) pa (zI M 952) (zI M 953) i (d + 1) (rxF g (zJ M 954) pa (zI M 952) (zI M 953) i b)) = (rxJ g (zJ M 954) pa (zI M 952) (zI M 953) i d (rxF g (zJ M 954) pa (zI M 952) (zI M 953) i b)) := if_neg (fun q => q.2.2.1 n56)
            refine s_goto 126 (zdk hX9_findsExchange_0 35 rfl) (by decide) ?_
            refine s_mem (M' := (zsL (zRB M (rxJ g (zJ M 954) pa (zI M 952) (zI M 953) i (d + 1) (rxF g (zJ M 954) pa (zI M 952) (zI M 953) i b))) 942 g)) (by rw [e1]) ?_
            refine s_iinc (r := nI (i + 1 + d + 1)) (zdk hX9_findsExchange_1 15 rfl) (Nat.le_of_ble_eq_true rfl) rfl (nI_1 _) ?_
            refine s_ls (ls' := [some (.ref 941), some (.int (nI i)), some (.int (nI (i + 1 + d + 1))), some (.int (nI (pa i))), some (.int (nI (pa (i + 1 + d)))), x5]) rfl ?_
            refine s_goto 14 (zdk hX9_findsExchange_1 16 rfl) (by decide) ?_
            exact ih (d + 1) _ _ _ (by omega) (by omega)
theorem w_X9_findsExchange_2 (hl : l.stackTraces = false) {M : zMem} (hm : mSh M) {g : Nat → Int64} (hb : gBd g) (hi4 : g 4 = (its g 4).toInt64) {pa : Nat → Nat} (hpa : ∀ f, f < gN g 3 → zI M 948 f = nI (pa f) ∧ pa f < gN g 2) (b : zBt) : ∀ (k : Nat) (i : Nat) (x2 x3 x4 x5 : Option Value), i ≤ gN g 3 → gN g 3 - i < k → zS l G mX9_findsExchange 4 100 0 0 2 [some (.ref 941), some (.int (nI i)), x2, x3, x4, x5] [] (zsL (zRB M (rxF g (zJ M 954) pa (zI M 952) (zI M 953) i b)) 942 g) (zD none (zsL (zRB M (rxF g (zJ M 954) pa (zI M 952) (zI M 953) (gN g 3) b)) 942 g)) := by
  intro k
  induction k with
  | zero => intros; omega
  | succ k ih =>
    intro i x2 x3 x4 x5 hi hk
    have hn2 := hb.2.2.1.2
    have ht4 := hb.2.1.2
    refine s_iload_n (zdk hX9_findsExchange_0 2 rfl) rfl ?_
    refine s_aload_n (zdk hX9_findsExchange_0 3 rfl) rfl ?_
    refine s_callV0 (ci := 9) [] (zdk hX9_findsExchange_0 4 rfl) cw_X9_180 (hm.1) (by decide) rfl rfl rfl (Nat.le_of_ble_eq_true rfl) (by decide) (c_X9_files hl (M := (zRB M (rxF g (zJ M 954) pa (zI M 952) (zI M 953) i b))) (g := g) hm hb) ?_
    refine s_icmp_ge 138 (zdk hX9_findsExchange_0 5 rfl) (by decide) (fun c7 => ?_) (fun c7 => ?_)
    · have n7 : gN g 3 ≤ i := nle c7 (by omega) (by omega)
      obtain rfl : i = gN g 3 := by omega
      refine s_return (zdk hX9_findsExchange_1 19 rfl) rfl ?_
      exact ⟨rfl, rfl⟩
    · have n7 : i < gN g 3 := nlt c7 (by omega) (by omega)
      refine s_iload_n (zdk hX9_findsExchange_0 6 rfl) rfl ?_
      refine s_iconstv (v := nI 1) (zdk hX9_findsExchange_0 7 rfl) zc_iconst_1 ?_
      refine s_iadd (zdk hX9_findsExchange_0 8 rfl) ?_
      refine s_topi (b := nI (i + 1)) (nI_add _ _) ?_
      refine s_istore_n (zdk hX9_findsExchange_0 9 rfl) (Nat.le_of_ble_eq_true rfl) ?_
      refine s_ls (ls' := [some (.ref 941), some (.int (nI i)), some (.int (nI (i + 1))), x3, x4, x5]) rfl ?_
      refine w_X9_findsExchange_14 hl hm hb hi4 hpa b (i := i) (by omega) (fun x3 x4 x5 => ?_) (gN g 3 + 1) 0 _ _ _ (by omega) (by omega)
      refine s_iinc (r := nI (i + 1)) (zdk hX9_findsExchange_1 17 rfl) (Nat.le_of_ble_eq_true rfl) rfl (nI_1 _) ?_
      refine s_ls (ls' := [some (.ref 941), some (.int (nI (i + 1))), some (.int (nI (gN g 3))), x3, x4, x5]) rfl ?_
      refine s_goto 2 (zdk hX9_findsExchange_1 18 rfl) (by decide) ?_
      exact ih (i + 1) _ _ _ _ (by omega) (by omega)
theorem c_X9_findsExchange (hl : l.stackTraces = false) {M : zMem} (hm : mSh M) {g : Nat → Int64} (hb : gBd g) (hi4 : g 4 = (its g 4).toInt64) {pa : Nat → Nat} (hpa : ∀ f, f < gN g 3 → zI M 948 f = nI (pa f) ∧ pa f < gN g 2) (b : zBt) : zCm l G mX9_findsExchange 4 100 0 0 [.ref 941] (zsL (zRB M b) 942 g) (zD none (zsL (zRB M (rxF g (zJ M 954) pa (zI M 952) (zI M 953) (gN g 3) b)) 942 g)) := by
  refine zCd.of (ls0 := [some (.ref 941), none, none, none, none, none]) (by decide +kernel) rfl hl rfl (Nat.le_of_ble_eq_true rfl) rfl ?_
  refine s_iconstv (v := nI 0) (zdk hX9_findsExchange_0 0 rfl) zc_iconst_0 ?_
  refine s_istore_n (zdk hX9_findsExchange_0 1 rfl) (Nat.le_of_ble_eq_true rfl) ?_
  refine s_ls (ls' := [some (.ref 941), some (.int (nI 0)), none, none, none, none]) rfl ?_
  exact w_X9_findsExchange_2 hl hm hb hi4 hpa b (gN g 3 + 1) 0 none none none none (by omega) (by omega)
theorem c_X9_findsStep (hl : l.stackTraces = false) {M : zMem} (hm : mSh M) {g : Nat → Int64} (hb : gBd g) (hi4 : g 4 = (its g 4).toInt64) {pa : Nat → Nat} (hpa : ∀ f, f < gN g 3 → zI M 948 f = nI (pa f) ∧ pa f < gN g 2) (b : zBt) : zCm l G mX9_findsStep 5 130 0 0 [.ref 941] (zsL (zRB M b) 942 g) (zD (some (.int (if ¬ (rStp g (zJ M 954) pa (zI M 952) (zI M 953) b).2.2.2 ≤ lN 0 then nI 1 else nI 0))) (zsL (zRB M (rStp g (zJ M 954) pa (zI M 952) (zI M 953) b)) 942 g)) := by
  refine zCd.of (ls0 := [some (.ref 941)]) (by decide +kernel) rfl hl rfl (Nat.le_of_ble_eq_true rfl) rfl ?_
  refine s_aload_n (zdk hX9_findsStep 0 rfl) rfl ?_
  refine s_lconstv (v := lN 0) (zdk hX9_findsStep 1 rfl) rfl ?_
  refine s_putJ (zdk hX9_findsStep 2 rfl) fw_X9_274 rfl pw_9_28 (hm.1) ?_
  refine s_mem (M' := (zsL (zRB M (b.1, b.2.1, b.2.2.1, lN 0)) 942 g)) ((zsL_Jn (a := 942) (b := 941) (by decide)).trans zRB_28) ?_
  refine s_aload_n (zdk hX9_findsStep 3 rfl) rfl ?_
  refine s_callV0 (ci := 9) [] (zdk hX9_findsStep 4 rfl) cw_X9_314 (hm.1) (by decide) rfl rfl rfl (Nat.le_of_ble_eq_true rfl) (by decide) (c_X9_findsMove hl hm hb hi4 hpa (b.1, b.2.1, b.2.2.1, lN 0)) ?_
  refine s_aload_n (zdk hX9_findsStep 5 rfl) rfl ?_
  refine s_getJ (zdk hX9_findsStep 6 rfl) fw_X9_274 rfl (hm.1) ?_
  refine s_topl (b := (rmF g (zJ M 954) pa (zI M 952) (zI M 953) (gN g 3) (b.1, b.2.1, b.2.2.1, lN 0)).2.2.2) (zRB_S) ?_
  refine s_lconstv (v := lN 0) (zdk hX9_findsStep 7 rfl) rfl ?_
  refine s_lcmp (zdk hX9_findsStep 8 rfl) ?_
  refine s_if_ne 22 (zdk hX9_findsStep 9 rfl) (by decide) (fun c15 => ?_) (fun c15 => ?_)
  · have eS : (rStp g (zJ M 954) pa (zI M 952) (zI M 953) b) = (rmF g (zJ M 954) pa (zI M 952) (zI M 953) (gN g 3) (b.1, b.2.1, b.2.2.1, lN 0)) := if_neg (lcmpn c15)
    refine s_mem (M' := (zsL (zRB M (rStp g (zJ M 954) pa (zI M 952) (zI M 953) b)) 942 g)) (by rw [eS]) ?_
    refine s_aload_n (zdk hX9_findsStep 12 rfl) rfl ?_
    refine s_getJ (zdk hX9_findsStep 13 rfl) fw_X9_274 rfl (hm.1) ?_
    refine s_topl (b := (rStp g (zJ M 954) pa (zI M 952) (zI M 953) b).2.2.2) (zRB_S) ?_
    refine s_lconstv (v := lN 0) (zdk hX9_findsStep 14 rfl) rfl ?_
    refine s_lcmp (zdk hX9_findsStep 15 rfl) ?_
    refine s_if_le 35 (zdk hX9_findsStep 16 rfl) (by decide) (fun c28 => ?_) (fun c28 => ?_)
    · have hC : ¬ (¬ (rStp g (zJ M 954) pa (zI M 952) (zI M 953) b).2.2.2 ≤ lN 0) := fun q => q (lcmp_le c28)
      refine s_iconstv (v := nI 0) (zdk hX9_findsStep 19 rfl) zc_iconst_0 ?_
      refine s_ireturn (zdk hX9_findsStep 20 rfl) rfl rfl ?_
      first | (rw [if_pos hC]; exact ⟨rfl, rfl⟩) | (rw [if_neg hC]; exact ⟨rfl, rfl⟩)
    · have hC : ¬ (rStp g (zJ M 954) pa (zI M 952) (zI M 953) b).2.2.2 ≤ lN 0 := Int64.not_le.mpr (lcmp_gt c28)
      refine s_iconstv (v := nI 1) (zdk hX9_findsStep 17 rfl) zc_iconst_1 ?_
      refine s_goto 36 (zdk hX9_findsStep 18 rfl) (by decide) ?_
      refine s_ireturn (zdk hX9_findsStep 20 rfl) rfl rfl ?_
      first | (rw [if_pos hC]; exact ⟨rfl, rfl⟩) | (rw [if_neg hC]; exact ⟨rfl, rfl⟩)
  · have eS : (rStp g (zJ M 954) pa (zI M 952) (zI M 953) b) = (rxF g (zJ M 954) pa (zI M 952) (zI M 953) (gN g 3) (rmF g (zJ M 954) pa (zI M 952) (zI M 953) (gN g 3) (b.1, b.2.1, b.2.2.1, lN 0))) := if_pos (lcmp0 c15)
    refine s_aload_n (zdk hX9_findsStep 10 rfl) rfl ?_
    refine s_callV0 (ci := 9) [] (zdk hX9_findsStep 11 rfl) cw_X9_317 (hm.1) (by decide) rfl rfl rfl (Nat.le_of_ble_eq_true rfl) (by decide) (c_X9_findsExchange hl hm hb hi4 hpa (rmF g (zJ M 954) pa (zI M 952) (zI M 953) (gN g 3) (b.1, b.2.1, b.2.2.1, lN 0))) ?_
    refine s_mem (M' := (zsL (zRB M (rStp g (zJ M 954) pa (zI M 952) (zI M 953) b)) 942 g)) (by rw [eS]) ?_
    refine s_aload_n (zdk hX9_findsStep 12 rfl) rfl ?_
    refine s_getJ (zdk hX9_findsStep 13 rfl) fw_X9_274 rfl (hm.1) ?_
    refine s_topl (b := (rStp g (zJ M 954) pa (zI M 952) (zI M 953) b).2.2.2) (zRB_S) ?_
    refine s_lconstv (v := lN 0) (zdk hX9_findsStep 14 rfl) rfl ?_
    refine s_lcmp (zdk hX9_findsStep 15 rfl) ?_
    refine s_if_le 35 (zdk hX9_findsStep 16 rfl) (by decide) (fun c28 => ?_) (fun c28 => ?_)
    · have hC : ¬ (¬ (rStp g (zJ M 954) pa (zI M 952) (zI M 953) b).2.2.2 ≤ lN 0) := fun q => q (lcmp_le c28)
      refine s_iconstv (v := nI 0) (zdk hX9_findsStep 19 rfl) zc_iconst_0 ?_
      refine s_ireturn (zdk hX9_findsStep 20 rfl) rfl rfl ?_
      first | (rw [if_pos hC]; exact ⟨rfl, rfl⟩) | (rw [if_neg hC]; exact ⟨rfl, rfl⟩)
    · have hC : ¬ (rStp g (zJ M 954) pa (zI M 952) (zI M 953) b).2.2.2 ≤ lN 0 := Int64.not_le.mpr (lcmp_gt c28)
      refine s_iconstv (v := nI 1) (zdk hX9_findsStep 17 rfl) zc_iconst_1 ?_
      refine s_goto 36 (zdk hX9_findsStep 18 rfl) (by decide) ?_
      refine s_ireturn (zdk hX9_findsStep 20 rfl) rfl rfl ?_
      first | (rw [if_pos hC]; exact ⟨rfl, rfl⟩) | (rw [if_neg hC]; exact ⟨rfl, rfl⟩)
theorem c_X9_goesOnPaper (hl : l.stackTraces = false) {M : zMem} (hm : mSh M) {g : Nat → Int64} {f a t : Nat} (hf : f < 20) (ha : a < 4) (ht : t < 4) (hpa : zI M 948 f = nI a) : zCm l G mX9_goesOnPaper 2 52 0 0 [.ref 941, .int (nI f), .int (nI t)] (zsL M 942 g) (zD none (zsL (zGp M f a t (gf g f 0)) 942 g)) := by
  refine zCd.of (ls0 := [some (.ref 941), some (.int (nI f)), some (.int (nI t))]) (by decide +kernel) rfl hl rfl (Nat.le_of_ble_eq_true rfl) rfl ?_
  refine s_aload_n (zdk hX9_goesOnPaper 0 rfl) rfl ?_
  refine s_getR (zdk hX9_goesOnPaper 1 rfl) fw_X9_49 rfl (hm.1) (show _ = some 953 from (hm.r (i := 11) rfl).1) ?_
  refine s_aload_n (zdk hX9_goesOnPaper 2 rfl) rfl ?_
  refine s_getR (zdk hX9_goesOnPaper 3 rfl) fw_X9_34 rfl (hm.1) (show _ = some 948 from (hm.r (i := 6) rfl).1) ?_
  refine s_iload_n (zdk hX9_goesOnPaper 4 rfl) rfl ?_
  refine s_ialoadN (N := 20) (j := f) (zdk hX9_goesOnPaper 5 rfl) ((hm.r (i := 6) rfl).2.1) ((hm.r (i := 6) rfl).2.2) (by omega) (by decide) ?_
  refine s_topi (b := nI a) (hpa) ?_
  refine s_dup2ir (zdk hX9_goesOnPaper 6 rfl) ?_
  refine s_ialoadN (N := 4) (j := a) (zdk hX9_goesOnPaper 7 rfl) ((hm.r (i := 11) rfl).2.1) ((hm.r (i := 11) rfl).2.2) (by omega) (by decide) ?_
  refine s_aload_n (zdk hX9_goesOnPaper 8 rfl) rfl ?_
  refine s_iload_n (zdk hX9_goesOnPaper 9 rfl) rfl ?_
  refine s_iconstv (v := nI 0) (zdk hX9_goesOnPaper 10 rfl) zc_iconst_0 ?_
  refine s_callV0 (ci := 9) [.int (nI f), .int (nI 0)] (zdk hX9_goesOnPaper 11 rfl) cw_X9_211 (hm.1) (by decide) rfl rfl rfl (Nat.le_of_ble_eq_true rfl) (by decide) (c_X9_of hl (M := M) (g := g) hm (f := f) (k := 0) (by omega)) ?_
  refine s_iadd (zdk hX9_goesOnPaper 12 rfl) ?_
  refine s_iastoreN (N := 4) (j := a) (zdk hX9_goesOnPaper 13 rfl) ((hm.r (i := 11) rfl).2.1) ((hm.r (i := 11) rfl).2.2) (by omega) (by decide) ?_
  refine s_mem (M' := (zsL (zsI M 953 a ((zI M 953 a) + (gf g f 0))) 942 g)) rfl ?_
  refine s_aload_n (zdk hX9_goesOnPaper 14 rfl) rfl ?_
  refine s_getR (zdk hX9_goesOnPaper 15 rfl) fw_X9_49 rfl (hm.1) (show _ = some 953 from (hm.r (i := 11) rfl).1) ?_
  refine s_iload_n (zdk hX9_goesOnPaper 16 rfl) rfl ?_
  refine s_dup2ir (zdk hX9_goesOnPaper 17 rfl) ?_
  refine s_ialoadN (N := 4) (j := t) (zdk hX9_goesOnPaper 18 rfl) ((hm.r (i := 11) rfl).2.1) ((hm.r (i := 11) rfl).2.2) (by omega) (by decide) ?_
  refine s_aload_n (zdk hX9_goesOnPaper 19 rfl) rfl ?_
  refine s_iload_n (zdk hX9_goesOnPaper 20 rfl) rfl ?_
  refine s_iconstv (v := nI 0) (zdk hX9_goesOnPaper 21 rfl) zc_iconst_0 ?_
  refine s_callV0 (ci := 9) [.int (nI f), .int (nI 0)] (zdk hX9_goesOnPaper 22 rfl) cw_X9_211 (hm.1) (by decide) rfl rfl rfl (Nat.le_of_ble_eq_true rfl) (by decide) (c_X9_of hl (M := (zsI M 953 a ((zI M 953 a) + (gf g f 0)))) (g := g) hm (f := f) (k := 0) (by omega)) ?_
  refine s_isub (zdk hX9_goesOnPaper 23 rfl) ?_
  refine s_iastoreN (N := 4) (j := t) (zdk hX9_goesOnPaper 24 rfl) ((hm.r (i := 11) rfl).2.1) ((hm.r (i := 11) rfl).2.2) (by omega) (by decide) ?_
  refine s_mem (M' := (zsL (zsI (zsI M 953 a ((zI M 953 a) + (gf g f 0))) 953 t ((zI (zsI M 953 a ((zI M 953 a) + (gf g f 0))) 953 t) - (gf g f 0))) 942 g)) rfl ?_
  refine s_aload_n (zdk hX9_goesOnPaper 25 rfl) rfl ?_
  refine s_getR (zdk hX9_goesOnPaper 26 rfl) fw_X9_34 rfl (hm.1) (show _ = some 948 from (hm.r (i := 6) rfl).1) ?_
  refine s_iload_n (zdk hX9_goesOnPaper 27 rfl) rfl ?_
  refine s_iload_n (zdk hX9_goesOnPaper 28 rfl) rfl ?_
  refine s_iastoreN (N := 20) (j := f) (zdk hX9_goesOnPaper 29 rfl) ((hm.r (i := 6) rfl).2.1) ((hm.r (i := 6) rfl).2.2) (by omega) (by decide) ?_
  refine s_mem (M' := (zsL (zsI (zsI (zsI M 953 a ((zI M 953 a) + (gf g f 0))) 953 t ((zI (zsI M 953 a ((zI M 953 a) + (gf g f 0))) 953 t) - (gf g f 0))) 948 f (nI t)) 942 g)) rfl ?_
  refine s_aload_n (zdk hX9_goesOnPaper 30 rfl) rfl ?_
  refine s_getR (zdk hX9_goesOnPaper 31 rfl) fw_X9_46 rfl (hm.1) (show _ = some 952 from (hm.r (i := 10) rfl).1) ?_
  refine s_iload_n (zdk hX9_goesOnPaper 32 rfl) rfl ?_
  refine s_iconstv (v := nI 1) (zdk hX9_goesOnPaper 33 rfl) zc_iconst_1 ?_
  refine s_bastoreN (N := 20) (j := f) (zdk hX9_goesOnPaper 34 rfl) ((hm.r (i := 10) rfl).2.1) ((hm.r (i := 10) rfl).2.2) (by omega) (by decide) (rfl) ?_
  refine s_mem (M' := (zsL (zsI (zsI (zsI (zsI M 953 a ((zI M 953 a) + (gf g f 0))) 953 t ((zI (zsI M 953 a ((zI M 953 a) + (gf g f 0))) 953 t) - (gf g f 0))) 948 f (nI t)) 952 f (nI 1)) 942 g)) rfl ?_
  refine s_return (zdk hX9_goesOnPaper 35 rfl) rfl ?_
  exact ⟨rfl, rfl⟩
end

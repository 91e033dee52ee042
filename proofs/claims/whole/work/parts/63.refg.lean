/-! ===== the reference: the best move, the best exchange ===== -/
theorem zRB_up {M : zMem} {b : zBt} {f o t : Int32} {s : Int64} {g0 : Nat → Int64} : zsL (zsI (zsI (zsI (zsJ (zRB M b) 941 28 s) 941 24 f) 941 25 o) 941 26 t) 942 g0 = zsL (zRB M (f, o, t, s)) 942 g0 := by
  congr 1
  exact (zRB_RB (M := M) (b := b) (c := (f, o, t, s)))
theorem zRB_I0 {M : zMem} {b : zBt} {c : Nat} (h : c ≠ 941) : zI (zRB M b) c = zI M c := by
  unfold zRB
  rw [zI_J, zI_In h, zI_In h, zI_In h]
section
variable {l : Launch} {G : zG}
theorem c_X9_canGo (hl : l.stackTraces = false) {M : zMem} (hm : mSh M) {g : Nat → Int64} (hb : gBd g) (hi4 : g 4 = (its g 4).toInt64) {f : Nat} (hf : f < 20) : zCm l G mX9_canGo 3 70 0 0 [.ref 941, .int (nI f)] (zsL M 942 g) (zD (some (.int (if ¬ nI (gN g 4) < gf g f 3 ∧ zI M 952 f = 0 then nI 1 else nI 0))) (zsL M 942 g)) := by
  refine zCd.of (ls0 := [some (.ref 941), some (.int (nI f))]) (by decide +kernel) rfl hl rfl (Nat.le_of_ble_eq_true rfl) rfl ?_
  refine s_aload_n (zdk hX9_canGo 0 rfl) rfl ?_
  refine s_iload_n (zdk hX9_canGo 1 rfl) rfl ?_
  refine s_callV0 (ci := 9) [.int (nI f)] (zdk hX9_canGo 2 rfl) cw_X9_233 (hm.1) (by decide) rfl rfl rfl (Nat.le_of_ble_eq_true rfl) (by decide) (c_X9_isPinned hl (M := M) (g := g) hm hb (h4 := hi4) (f := f) (by omega)) ?_
  refine s_if_ne 21 (zdk hX9_canGo 3 rfl) (by decide) (fun c5 => ?_) (fun c5 => ?_)
  · have b5 : nI (gN g 4) < gf g f 3 := b01_ne c5
    have hC : ¬ (¬ nI (gN g 4) < gf g f 3 ∧ zI M 952 f = 0) := fun q => q.1 b5
    refine s_iconstv (v := nI 0) (zdk hX9_canGo 11 rfl) zc_iconst_0 ?_
    refine s_ireturn (zdk hX9_canGo 12 rfl) rfl rfl ?_
    first | (rw [if_pos hC]; exact ⟨rfl, rfl⟩) | (rw [if_neg hC]; exact ⟨rfl, rfl⟩)
  · have b5 : ¬ (nI (gN g 4) < gf g f 3) := b01_eq c5
    refine s_aload_n (zdk hX9_canGo 4 rfl) rfl ?_
    refine s_getR (zdk hX9_canGo 5 rfl) fw_X9_46 rfl (hm.1) (show _ = some 952 from (hm.r (i := 10) rfl).1) ?_
    refine s_iload_n (zdk hX9_canGo 6 rfl) rfl ?_
    refine s_baloadN (N := 20) (j := f) (zdk hX9_canGo 7 rfl) ((hm.r (i := 10) rfl).2.1) ((hm.r (i := 10) rfl).2.2) (by omega) (by decide) ?_
    refine s_if_ne 21 (zdk hX9_canGo 8 rfl) (by decide) (fun c14 => ?_) (fun c14 => ?_)
    · have hC : ¬ (¬ nI (gN g 4) < gf g f 3 ∧ zI M 952 f = 0) := fun q => c14 q.2
      refine s_iconstv (v := nI 0) (zdk hX9_canGo 11 rfl) zc_iconst_0 ?_
      refine s_ireturn (zdk hX9_canGo 12 rfl) rfl rfl ?_
      first | (rw [if_pos hC]; exact ⟨rfl, rfl⟩) | (rw [if_neg hC]; exact ⟨rfl, rfl⟩)
    · have hC : (¬ nI (gN g 4) < gf g f 3 ∧ zI M 952 f = 0) := ⟨b5, c14⟩
      refine s_iconstv (v := nI 1) (zdk hX9_canGo 9 rfl) zc_iconst_1 ?_
      refine s_goto 22 (zdk hX9_canGo 10 rfl) (by decide) ?_
      refine s_ireturn (zdk hX9_canGo 12 rfl) rfl rfl ?_
      first | (rw [if_pos hC]; exact ⟨rfl, rfl⟩) | (rw [if_neg hC]; exact ⟨rfl, rfl⟩)
theorem c_X9_found (hl : l.stackTraces = false) {M : zMem} (hm : mSh M) {g : Nat → Int64} {b : zBt} (f o t : Int32) (s : Int64) : zCm l G mX9_found 0 0 0 0 [.ref 941, .int (f), .int (o), .int (t), .long (s)] (zsL (zRB M b) 942 g) (zD none (zsL (zRB M (rFd b f o t s)) 942 g)) := by
  refine zCd.of (ls0 := [some (.ref 941), some (.int (f)), some (.int (o)), some (.int (t)), some (.long (s)), none]) (by decide +kernel) rfl hl rfl (Nat.le_of_ble_eq_true rfl) rfl ?_
  refine s_lload (zdk hX9_found 0 rfl) rfl ?_
  refine s_aload_n (zdk hX9_found 1 rfl) rfl ?_
  refine s_getJ (zdk hX9_found 2 rfl) fw_X9_274 rfl (hm.1) ?_
  refine s_topl (b := b.2.2.2) (zRB_S) ?_
  refine s_lcmp (zdk hX9_found 3 rfl) ?_
  refine s_if_gt 11 (zdk hX9_found 4 rfl) (by decide) (fun c7 => ?_) (fun c7 => ?_)
  · have e : rFd b f o t s = (f, o, t, s) := if_neg (lcmp_gt' c7)
    rw [e]
    refine s_aload_n (zdk hX9_found 6 rfl) rfl ?_
    refine s_lload (zdk hX9_found 7 rfl) rfl ?_
    refine s_putJ (zdk hX9_found 8 rfl) fw_X9_274 rfl pw_9_28 (hm.1) ?_
    refine s_mem (M' := (zsL (zsJ (zRB M b) 941 28 (s)) 942 g)) (zsL_Jn (a := 942) (b := 941) (by decide)) ?_
    refine s_aload_n (zdk hX9_found 9 rfl) rfl ?_
    refine s_iload_n (zdk hX9_found 10 rfl) rfl ?_
    refine s_putI (zdk hX9_found 11 rfl) fw_X9_278 rfl pw_9_24 (hm.1) ?_
    refine s_mem (M' := (zsL (zsI (zsJ (zRB M b) 941 28 (s)) 941 24 (f)) 942 g)) rfl ?_
    refine s_aload_n (zdk hX9_found 12 rfl) rfl ?_
    refine s_iload_n (zdk hX9_found 13 rfl) rfl ?_
    refine s_putI (zdk hX9_found 14 rfl) fw_X9_281 rfl pw_9_25 (hm.1) ?_
    refine s_mem (M' := (zsL (zsI (zsI (zsJ (zRB M b) 941 28 (s)) 941 24 (f)) 941 25 (o)) 942 g)) rfl ?_
    refine s_aload_n (zdk hX9_found 15 rfl) rfl ?_
    refine s_iload_n (zdk hX9_found 16 rfl) rfl ?_
    refine s_putI (zdk hX9_found 17 rfl) fw_X9_284 rfl pw_9_26 (hm.1) ?_
    refine s_mem (M' := (zsL (zsI (zsI (zsI (zsJ (zRB M b) 941 28 (s)) 941 24 (f)) 941 25 (o)) 941 26 (t)) 942 g)) rfl ?_
    refine s_return (zdk hX9_found 18 rfl) rfl ?_
    exact ⟨rfl, zRB_up⟩
  · have e : rFd b f o t s = b := if_pos (lcmp_le' c7)
    rw [e]
    refine s_return (zdk hX9_found 5 rfl) rfl ?_
    exact ⟨rfl, rfl⟩
theorem c_X9_savesBy (hl : l.stackTraces = false) {M : zMem} (hm : mSh M) {g : Nat → Int64} {f a c : Nat} (hf : f < 20) (ha : a < 4) (hc : c < 4) : zCm l G mX9_savesBy 2 44 0 0 [.ref 941, .int (nI f), .int (nI a), .int (nI c)] (zsL M 942 g) (zD (some (.long (rSv g (zJ M 954) f a c))) (zsL M 942 g)) := by
  refine zCd.of (ls0 := [some (.ref 941), some (.int (nI f)), some (.int (nI a)), some (.int (nI c))]) (by decide +kernel) rfl hl rfl (Nat.le_of_ble_eq_true rfl) rfl ?_
  refine s_aload_n (zdk hX9_savesBy 0 rfl) rfl ?_
  refine s_getR (zdk hX9_savesBy 1 rfl) fw_X9_52 rfl (hm.1) (show _ = some 954 from (hm.r (i := 12) rfl).1) ?_
  refine s_iconstv (v := nI 4) (zdk hX9_savesBy 2 rfl) zc_iconst_4 ?_
  refine s_iload_n (zdk hX9_savesBy 3 rfl) rfl ?_
  refine s_imul (zdk hX9_savesBy 4 rfl) ?_
  refine s_topi (b := nI (4 * f)) (pk_mul _ _) ?_
  refine s_iload_n (zdk hX9_savesBy 5 rfl) rfl ?_
  refine s_iadd (zdk hX9_savesBy 6 rfl) ?_
  refine s_topi (b := nI (4 * f + a)) (nI_add _ _) ?_
  refine s_laloadN (N := 80) (j := 4 * f + a) (zdk hX9_savesBy 7 rfl) ((hm.r (i := 12) rfl).2.1) ((hm.r (i := 12) rfl).2.2) (by omega) (by decide) ?_
  refine s_topl (b := zJ M 954 (4 * f + a)) (congrFun (zJ_Ln (by decide)) _) ?_
  refine s_aload_n (zdk hX9_savesBy 8 rfl) rfl ?_
  refine s_getR (zdk hX9_savesBy 9 rfl) fw_X9_52 rfl (hm.1) (show _ = some 954 from (hm.r (i := 12) rfl).1) ?_
  refine s_iconstv (v := nI 4) (zdk hX9_savesBy 10 rfl) zc_iconst_4 ?_
  refine s_iload_n (zdk hX9_savesBy 11 rfl) rfl ?_
  refine s_imul (zdk hX9_savesBy 12 rfl) ?_
  refine s_topi (b := nI (4 * f)) (pk_mul _ _) ?_
  refine s_iload_n (zdk hX9_savesBy 13 rfl) rfl ?_
  refine s_iadd (zdk hX9_savesBy 14 rfl) ?_
  refine s_topi (b := nI (4 * f + c)) (nI_add _ _) ?_
  refine s_laloadN (N := 80) (j := 4 * f + c) (zdk hX9_savesBy 15 rfl) ((hm.r (i := 12) rfl).2.1) ((hm.r (i := 12) rfl).2.2) (by omega) (by decide) ?_
  refine s_topl (b := zJ M 954 (4 * f + c)) (congrFun (zJ_Ln (by decide)) _) ?_
  refine s_lsub (zdk hX9_savesBy 16 rfl) ?_
  refine s_aload_n (zdk hX9_savesBy 17 rfl) rfl ?_
  refine s_iload_n (zdk hX9_savesBy 18 rfl) rfl ?_
  refine s_iconstv (v := nI 0) (zdk hX9_savesBy 19 rfl) zc_iconst_0 ?_
  refine s_callV0 (ci := 9) [.int (nI f), .int (nI 0)] (zdk hX9_savesBy 20 rfl) cw_X9_211 (hm.1) (by decide) rfl rfl rfl (Nat.le_of_ble_eq_true rfl) (by decide) (c_X9_of hl (M := M) (g := g) hm (f := f) (k := 0) (by omega)) ?_
  refine s_i2l (zdk hX9_savesBy 21 rfl) ?_
  refine s_aload_n (zdk hX9_savesBy 22 rfl) rfl ?_
  refine s_iload_n (zdk hX9_savesBy 23 rfl) rfl ?_
  refine s_iconstv (v := nI 4) (zdk hX9_savesBy 24 rfl) zc_iconst_4 ?_
  refine s_callV0 (ci := 9) [.int (nI a), .int (nI 4)] (zdk hX9_savesBy 25 rfl) cw_X9_214 (hm.1) (by decide) rfl rfl rfl (Nat.le_of_ble_eq_true rfl) (by decide) (c_X9_ofTier hl (M := M) (g := g) hm (t := a) (k := 4) (by omega)) ?_
  refine s_aload_n (zdk hX9_savesBy 26 rfl) rfl ?_
  refine s_iload_n (zdk hX9_savesBy 27 rfl) rfl ?_
  refine s_iconstv (v := nI 3) (zdk hX9_savesBy 28 rfl) zc_iconst_3 ?_
  refine s_callV0 (ci := 9) [.int (nI c), .int (nI 3)] (zdk hX9_savesBy 29 rfl) cw_X9_214 (hm.1) (by decide) rfl rfl rfl (Nat.le_of_ble_eq_true rfl) (by decide) (c_X9_ofTier hl (M := M) (g := g) hm (t := c) (k := 3) (by omega)) ?_
  refine s_iadd (zdk hX9_savesBy 30 rfl) ?_
  refine s_i2l (zdk hX9_savesBy 31 rfl) ?_
  refine s_lmul (zdk hX9_savesBy 32 rfl) ?_
  refine s_lsub (zdk hX9_savesBy 33 rfl) ?_
  refine s_lreturn (zdk hX9_savesBy 34 rfl) rfl  ?_
  exact ⟨rfl, rfl⟩
theorem w_X9_findsMove_12 (hl : l.stackTraces = false) {M : zMem} (hm : mSh M) {g : Nat → Int64} (hb : gBd g) (hi4 : g 4 = (its g 4).toInt64) {pa : Nat → Nat} (hpa : ∀ f, f < gN g 3 → zI M 948 f = nI (pa f) ∧ pa f < gN g 2) (b : zBt) {f : Nat} (hf : f < gN g 3) {Q : zOut → zMem → Prop} (kk : zS l G mX9_findsMove 4 100 0 0 78 [some (.ref 941), some (.int (nI f)), some (.int (nI (gN g 2)))] [] (zsL (zRB M (rmT g (zJ M 954) pa (zI M 952) (zI M 953) f (gN g 2) (rmF g (zJ M 954) pa (zI M 952) (zI M 953) f b))) 942 g) Q) : ∀ (k : Nat) (t : Nat), t ≤ gN g 2 → gN g 2 - t < k → zS l G mX9_findsMove 4 100 0 0 12 [some (.ref 941), some (.int (nI f)), some (.int (nI t))] [] (zsL (zRB M (rmT g (zJ M 954) pa (zI M 952) (zI M 953) f t (rmF g (zJ M 954) pa (zI M 952) (zI M 953) f b))) 942 g) Q := by
  intro k
  induction k with
  | zero => intros; omega
  | succ k ih =>
    intro t hi hk
    have hn2 := hb.2.2.1.2
    have ht4 := hb.2.1.2
    have hpf := (hpa f hf).2
    refine s_iload_n (zdk hX9_findsMove 8 rfl) rfl ?_
    refine s_aload_n (zdk hX9_findsMove 9 rfl) rfl ?_
    refine s_callV0 (ci := 9) [] (zdk hX9_findsMove 10 rfl) cw_X9_154 (hm.1) (by decide) rfl rfl rfl (Nat.le_of_ble_eq_true rfl) (by decide) (c_X9_tiers hl (M := (zRB M (rmT g (zJ M 954) pa (zI M 952) (zI M 953) f t (rmF g (zJ M 954) pa (zI M 952) (zI M 953) f b)))) (g := g) hm hb) ?_
    refine s_icmp_ge 78 (zdk hX9_findsMove 11 rfl) (by decide) (fun c17 => ?_) (fun c17 => ?_)
    · have n17 : gN g 2 ≤ t := nle c17 (by omega) (by omega)
      obtain rfl : t = gN g 2 := by omega
      exact kk
    · have n17 : t < gN g 2 := nlt c17 (by omega) (by omega)
      refine s_aload_n (zdk hX9_findsMove 12 rfl) rfl ?_
      refine s_iload_n (zdk hX9_findsMove 13 rfl) rfl ?_
      refine s_callV0 (ci := 9) [.int (nI f)] (zdk hX9_findsMove 14 rfl) cw_X9_287 (hm.1) (by decide) rfl rfl rfl (Nat.le_of_ble_eq_true rfl) (by decide) (c_X9_canGo hl (M := (zRB M (rmT g (zJ M 954) pa (zI M 952) (zI M 953) f t (rmF g (zJ M 954) pa (zI M 952) (zI M 953) f b)))) (g := g) hm hb hi4 (f := f) (by omega)) ?_
      refine s_if_eq 72 (zdk hX9_findsMove 15 rfl) (by decide) (fun c25 => ?_) (fun c25 => ?_)
      · have b25 : ¬ (¬ nI (gN g 4) < gf g f 3 ∧ zI (zRB M (rmT g (zJ M 954) pa (zI M 952) (zI M 953) f t (rmF g (zJ M 954) pa (zI M 952) (zI M 953) f b))) 952 f = 0) := b01_eq c25
        rw [show zI (zRB M (rmT g (zJ M 954) pa (zI M 952) (zI M 953) f t (rmF g (zJ M 954) pa (zI M 952) (zI M 953) f b))) 952 = zI M 952 from zRB_I0 (by decide)] at b25
        have e1 : (rmT g (zJ M 954) pa (zI M 952) (zI M 953) f (t + 1) (rmF g (zJ M 954) pa (zI M 952) (zI M 953) f b)) = (rmT g (zJ M 954) pa (zI M 952) (zI M 953) f t (rmF g (zJ M 954) pa (zI M 952) (zI M 953) f b)) := if_neg (fun q => b25 q.1)
        refine s_mem (M' := (zsL (zRB M (rmT g (zJ M 954) pa (zI M 952) (zI M 953) f (t + 1) (rmF g (zJ M 954) pa (zI M 952) (zI M 953) f b))) 942 g)) (by rw [e1]) ?_
        refine s_iinc (r := nI (t + 1)) (zdk hX9_findsMove 44 rfl) (Nat.le_of_ble_eq_true rfl) rfl (nI_1 _) ?_
        refine s_ls (ls' := [some (.ref 941), some (.int (nI f)), some (.int (nI (t + 1)))]) rfl ?_
        refine s_goto 12 (zdk hX9_findsMove 45 rfl) (by decide) ?_
        exact ih (t + 1) (by omega) (by omega)
      · have b25 : ¬ nI (gN g 4) < gf g f 3 ∧ zI (zRB M (rmT g (zJ M 954) pa (zI M 952) (zI M 953) f t (rmF g (zJ M 954) pa (zI M 952) (zI M 953) f b))) 952 f = 0 := b01_ne c25
        rw [show zI (zRB M (rmT g (zJ M 954) pa (zI M 952) (zI M 953) f t (rmF g (zJ M 954) pa (zI M 952) (zI M 953) f b))) 952 = zI M 952 from zRB_I0 (by decide)] at b25
        refine s_iload_n (zdk hX9_findsMove 16 rfl) rfl ?_
        refine s_aload_n (zdk hX9_findsMove 17 rfl) rfl ?_
        refine s_getR (zdk hX9_findsMove 18 rfl) fw_X9_34 rfl (hm.1) (show _ = some 948 from (hm.r (i := 6) rfl).1) ?_
        refine s_iload_n (zdk hX9_findsMove 19 rfl) rfl ?_
        refine s_ialoadN (N := 20) (j := f) (zdk hX9_findsMove 20 rfl) ((hm.r (i := 6) rfl).2.1) ((hm.r (i := 6) rfl).2.2) (by omega) (by decide) ?_
        refine s_topi (b := nI (pa f)) ((congrFun (zRB_I (by decide)) _).trans (hpa _ (by omega)).1) ?_
        refine s_icmp_eq 72 (zdk hX9_findsMove 21 rfl) (by decide) (fun c35 => ?_) (fun c35 => ?_)
        · have n35 : t = pa f := neq c35 (by omega) (by omega)
          have e1 : (rmT g (zJ M 954) pa (zI M 952) (zI M 953) f (t + 1) (rmF g (zJ M 954) pa (zI M 952) (zI M 953) f b)) = (rmT g (zJ M 954) pa (zI M 952) (zI M 953) f t (rmF g (zJ M 954) pa (zI M 952) (zI M 953) f b)) := if_neg (fun q => q.2.1 n35)
          refine s_mem (M' := (zsL (zRB M (rmT g (zJ M 954) pa (zI M 952) (zI M 953) f (t + 1) (rmF g (zJ M 954) pa (zI M 952) (zI M 953) f b))) 942 g)) (by rw [e1]) ?_
          refine s_iinc (r := nI (t + 1)) (zdk hX9_findsMove 44 rfl) (Nat.le_of_ble_eq_true rfl) rfl (nI_1 _) ?_
          refine s_ls (ls' := [some (.ref 941), some (.int (nI f)), some (.int (nI (t + 1)))]) rfl ?_
          refine s_goto 12 (zdk hX9_findsMove 45 rfl) (by decide) ?_
          exact ih (t + 1) (by omega) (by omega)
        · have n35 : ¬ t = pa f := nne c35
          refine s_aload_n (zdk hX9_findsMove 22 rfl) rfl ?_
          refine s_getR (zdk hX9_findsMove 23 rfl) fw_X9_49 rfl (hm.1) (show _ = some 953 from (hm.r (i := 11) rfl).1) ?_
          refine s_iload_n (zdk hX9_findsMove 24 rfl) rfl ?_
          refine s_ialoadN (N := 4) (j := t) (zdk hX9_findsMove 25 rfl) ((hm.r (i := 11) rfl).2.1) ((hm.r (i := 11) rfl).2.2) (by omega) (by decide) ?_
          refine s_topi (b := zI M 953 t) (congrFun (zRB_I (by decide)) _) ?_
          refine s_aload_n (zdk hX9_findsMove 26 rfl) rfl ?_
          refine s_iload_n (zdk hX9_findsMove 27 rfl) rfl ?_
          refine s_iconstv (v := nI 0) (zdk hX9_findsMove 28 rfl) zc_iconst_0 ?_
          refine s_callV0 (ci := 9) [.int (nI f), .int (nI 0)] (zdk hX9_findsMove 29 rfl) cw_X9_211 (hm.1) (by decide) rfl rfl rfl (Nat.le_of_ble_eq_true rfl) (by decide) (c_X9_of hl (M := (zRB M (rmT g (zJ M 954) pa (zI M 952) (zI M 953) f t (rmF g (zJ M 954) pa (zI M 952) (zI M 953) f b)))) (g := g) hm (f := f) (k := 0) (by omega)) ?_
          refine s_icmp_lt 72 (zdk hX9_findsMove 30 rfl) (by decide) (fun c50 => ?_) (fun c50 => ?_)
          · have e1 : (rmT g (zJ M 954) pa (zI M 952) (zI M 953) f (t + 1) (rmF g (zJ M 954) pa (zI M 952) (zI M 953) f b)) = (rmT g (zJ M 954) pa (zI M 952) (zI M 953) f t (rmF g (zJ M 954) pa (zI M 952) (zI M 953) f b)) := if_neg (fun q => q.2.2 c50)
            refine s_mem (M' := (zsL (zRB M (rmT g (zJ M 954) pa (zI M 952) (zI M 953) f (t + 1) (rmF g (zJ M 954) pa (zI M 952) (zI M 953) f b))) 942 g)) (by rw [e1]) ?_
            refine s_iinc (r := nI (t + 1)) (zdk hX9_findsMove 44 rfl) (Nat.le_of_ble_eq_true rfl) rfl (nI_1 _) ?_
            refine s_ls (ls' := [some (.ref 941), some (.int (nI f)), some (.int (nI (t + 1)))]) rfl ?_
            refine s_goto 12 (zdk hX9_findsMove 45 rfl) (by decide) ?_
            exact ih (t + 1) (by omega) (by omega)
          · have hC : (¬ nI (gN g 4) < gf g f 3 ∧ zI M 952 f = 0) ∧ ¬ t = pa f ∧ ¬ zI M 953 t < gf g f 0 := ⟨b25, n35, c50⟩
            refine s_aload_n (zdk hX9_findsMove 31 rfl) rfl ?_
            refine s_iload_n (zdk hX9_findsMove 32 rfl) rfl ?_
            refine s_iconstv (v := (-1)) (zdk hX9_findsMove 33 rfl) zc_iconst_m1 ?_
            refine s_iload_n (zdk hX9_findsMove 34 rfl) rfl ?_
            refine s_aload_n (zdk hX9_findsMove 35 rfl) rfl ?_
            refine s_iload_n (zdk hX9_findsMove 36 rfl) rfl ?_
            refine s_aload_n (zdk hX9_findsMove 37 rfl) rfl ?_
            refine s_getR (zdk hX9_findsMove 38 rfl) fw_X9_34 rfl (hm.1) (show _ = some 948 from (hm.r (i := 6) rfl).1) ?_
            refine s_iload_n (zdk hX9_findsMove 39 rfl) rfl ?_
            refine s_ialoadN (N := 20) (j := f) (zdk hX9_findsMove 40 rfl) ((hm.r (i := 6) rfl).2.1) ((hm.r (i := 6) rfl).2.2) (by omega) (by decide) ?_
            refine s_topi (b := nI (pa f)) ((congrFun (zRB_I (by decide)) _).trans (hpa _ (by omega)).1) ?_
            refine s_iload_n (zdk hX9_findsMove 41 rfl) rfl ?_
            refine s_callV0 (ci := 9) [.int (nI f), .int (nI (pa f)), .int (nI t)] (zdk hX9_findsMove 42 rfl) cw_X9_290 (hm.1) (by decide) rfl rfl rfl (Nat.le_of_ble_eq_true rfl) (by decide) (c_X9_savesBy hl (M := (zRB M (rmT g (zJ M 954) pa (zI M 952) (zI M 953) f t (rmF g (zJ M 954) pa (zI M 952) (zI M 953) f b)))) (g := g) hm (f := f) (a := pa f) (c := t) (by omega) (by have := (hpa f hf).2; omega) (by omega)) ?_
            refine s_topl (b := rSv g (zJ M 954) f (pa f) t) (by rw [show zJ (zRB M (rmT g (zJ M 954) pa (zI M 952) (zI M 953) f t (rmF g (zJ M 954) pa (zI M 952) (zI M 953) f b))) 954 = zJ M 954 from zJ_Jn (by decide)]) ?_
            refine s_callV0 (ci := 9) [.int (nI f), .int ((-1)), .int (nI t), .long (rSv g (zJ M 954) f (pa f) t)] (zdk hX9_findsMove 43 rfl) cw_X9_293 (hm.1) (by decide) rfl rfl rfl (Nat.le_of_ble_eq_true rfl) (by decide) (c_X9_found hl (M := M) (g := g) hm (b := (rmT g (zJ M 954) pa (zI M 952) (zI M 953) f t (rmF g (zJ M 954) pa (zI M 952) (zI M 953) f b))) (nI f) (-1) (nI t) (rSv g (zJ M 954) f (pa f) t)) ?_
            have e1 : (rmT g (zJ M 954) pa (zI M 952) (zI M 953) f (t + 1) (rmF g (zJ M 954) pa (zI M 952) (zI M 953) f b)) = (rFd (rmT g (zJ M 954) pa (zI M 952) (zI M 953) f t (rmF g (zJ M 954) pa (zI M 952) (zI M 953) f b)) (nI f) (-1) (nI t) (rSv g (zJ M 954) f (pa f) t)) := if_pos hC
            refine s_mem (M' := (zsL (zRB M (rmT g (zJ M 954) pa (zI M 952) (zI M 953) f (t + 1) (rmF g (zJ M 954) pa (zI M 952) (zI M 953) f b))) 942 g)) (by rw [e1]) ?_
            refine s_iinc (r := nI (t + 1)) (zdk hX9_findsMove 44 rfl) (Nat.le_of_ble_eq_true rfl) rfl (nI_1 _) ?_
            refine s_ls (ls' := [some (.ref 941), some (.int (nI f)), some (.int (nI (t + 1)))]) rfl ?_
            refine s_goto 12 (zdk hX9_findsMove 45 rfl) (by decide) ?_
            exact ih (t + 1) (by omega) (by omega)
theorem w_X9_findsMove_2 (hl : l.stackTraces = false) {M : zMem} (hm : mSh M) {g : Nat → Int64} (hb : gBd g) (hi4 : g 4 = (its g 4).toInt64) {pa : Nat → Nat} (hpa : ∀ f, f < gN g 3 → zI M 948 f = nI (pa f) ∧ pa f < gN g 2) (b : zBt) : ∀ (k : Nat) (f : Nat) (x2 : Option Value), f ≤ gN g 3 → gN g 3 - f < k → zS l G mX9_findsMove 4 100 0 0 2 [some (.ref 941), some (.int (nI f)), x2] [] (zsL (zRB M (rmF g (zJ M 954) pa (zI M 952) (zI M 953) f b)) 942 g) (zD none (zsL (zRB M (rmF g (zJ M 954) pa (zI M 952) (zI M 953) (gN g 3) b)) 942 g)) := by
  intro k
  induction k with
  | zero => intros; omega
  | succ k ih =>
    intro f x2 hi hk
    have hn2 := hb.2.2.1.2
    have ht4 := hb.2.1.2
    refine s_iload_n (zdk hX9_findsMove 2 rfl) rfl ?_
    refine s_aload_n (zdk hX9_findsMove 3 rfl) rfl ?_
    refine s_callV0 (ci := 9) [] (zdk hX9_findsMove 4 rfl) cw_X9_180 (hm.1) (by decide) rfl rfl rfl (Nat.le_of_ble_eq_true rfl) (by decide) (c_X9_files hl (M := (zRB M (rmF g (zJ M 954) pa (zI M 952) (zI M 953) f b))) (g := g) hm hb) ?_
    refine s_icmp_ge 84 (zdk hX9_findsMove 5 rfl) (by decide) (fun c7 => ?_) (fun c7 => ?_)
    · have n7 : gN g 3 ≤ f := nle c7 (by omega) (by omega)
      obtain rfl : f = gN g 3 := by omega
      refine s_return (zdk hX9_findsMove 48 rfl) rfl ?_
      exact ⟨rfl, rfl⟩
    · have n7 : f < gN g 3 := nlt c7 (by omega) (by omega)
      refine s_iconstv (v := nI 0) (zdk hX9_findsMove 6 rfl) zc_iconst_0 ?_
      refine s_istore_n (zdk hX9_findsMove 7 rfl) (Nat.le_of_ble_eq_true rfl) ?_
      refine s_ls (ls' := [some (.ref 941), some (.int (nI f)), some (.int (nI 0))]) rfl ?_
      refine w_X9_findsMove_12 hl hm hb hi4 hpa b (f := f) (by omega) ?_ (gN g 2 + 1) 0 (by omega) (by omega)
      refine s_iinc (r := nI (f + 1)) (zdk hX9_findsMove 46 rfl) (Nat.le_of_ble_eq_true rfl) rfl (nI_1 _) ?_
      refine s_ls (ls' := [some (.ref 941), some (.int (nI (f + 1))), some (.int (nI (gN g 2)))]) rfl ?_
      refine s_goto 2 (zdk hX9_findsMove 47 rfl) (by decide) ?_
      exact ih (f + 1) _ (by omega) (by omega)
theorem c_X9_findsMove (hl : l.stackTraces = false) {M : zMem} (hm : mSh M) {g : Nat → Int64} (hb : gBd g) (hi4 : g 4 = (its g 4).toInt64) {pa : Nat → Nat} (hpa : ∀ f, f < gN g 3 → zI M 948 f = nI (pa f) ∧ pa f < gN g 2) (b : zBt) : zCm l G mX9_findsMove 4 100 0 0 [.ref 941] (zsL (zRB M b) 942 g) (zD none (zsL (zRB M (rmF g (zJ M 954) pa (zI M 952) (zI M 953) (gN g 3) b)) 942 g)) := by
  refine zCd.of (ls0 := [some (.ref 941), none, none]) (by decide +kernel) rfl hl rfl (Nat.le_of_ble_eq_true rfl) rfl ?_
  refine s_iconstv (v := nI 0) (zdk hX9_findsMove 0 rfl) zc_iconst_0 ?_
  refine s_istore_n (zdk hX9_findsMove 1 rfl) (Nat.le_of_ble_eq_true rfl) ?_
  refine s_ls (ls' := [some (.ref 941), some (.int (nI 0)), none]) rfl ?_
  exact w_X9_findsMove_2 hl hm hb hi4 hpa b (gN g 3 + 1) 0 none (by omega) (by omega)
end

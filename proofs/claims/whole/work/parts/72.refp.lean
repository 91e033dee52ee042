/-! ===== the reference: what it writes ===== -/
def zWx (M : zMem) (w : zWr) : zMem := zsA (zsI M 941 31 (nI w.1)) 955 w.2
def rPut (w : zWr) (v : Int32) : zWr := (w.1 + 1, zw1 w.2 w.1 v)
theorem zWx_31 {M : zMem} {w : zWr} {g : Nat → Int64} : zI (zsL (zWx M w) 942 g) 941 31 = nI w.1 := by
  unfold zWx
  rw [zI_L, zI_An _ _ (by decide), zI_Ie, zw1_e]
theorem zWx_31b {M : zMem} {w : zWr} {g : Nat → Int64} {k : Nat} {v : Int32} : zI (zsL (zsI (zWx M w) 955 k v) 942 g) 941 31 = nI w.1 := by
  unfold zWx
  rw [zI_L, zI_In (by decide), zI_An _ _ (by decide), zI_Ie, zw1_e]
theorem zWx_put {M : zMem} {w : zWr} {v : Int32} : zsI (zsI (zWx M w) 955 w.1 v) 941 31 (nI (w.1 + 1)) = zWx M (rPut w v) := by
  unfold zWx rPut
  rw [zsA_1]
  unfold zsA zsI
  congr 1
  funext d k
  unfold zu zur
  by_cases q : d = 941
  · subst q
    simp
    by_cases q2 : k = 31
    · simp [q2]
    · simp [q2]
  · by_cases q2 : d = 955
    · subst q2; simp
    · simp [q, q2]
theorem zWx_0 {M : zMem} : zsI M 941 31 (nI 0) = zWx M (0, zI M 955) := by
  unfold zWx
  have : zI (zsI M 941 31 (nI 0)) 955 = zI M 955 := zI_In (by decide)
  rw [← this, zsA_id]
theorem rPut_if {C : Prop} [Decidable C] (w : zWr) (v : Int32) : (if C then rPut w v else w).1 ≤ w.1 + 1 := by
  split
  · exact Nat.le_refl _
  · omega
def rsn (g : Nat → Int64) (b : Nat) : Nat → zWr → Nat → zWr
  | 0, w, _ => w
  | m + 1, w, k => if g (b + k) ≤ lN 0 then w else rsn g b m (rPut w (its g (b + k))) (k + 1)
theorem rsn_s {g : Nat → Int64} {b j : Nat} {w : zWr} (h : j < 8) : rsn g b (8 - j) w j = if g (b + j) ≤ lN 0 then w else rsn g b (8 - (j + 1)) (rPut w (its g (b + j))) (j + 1) := by
  conv => lhs; rw [show 8 - j = (8 - (j + 1)) + 1 by omega]
  rfl
theorem rsn_le (g : Nat → Int64) (b : Nat) : ∀ (m : Nat) (w : zWr) (k : Nat), (rsn g b m w k).1 ≤ w.1 + m
  | 0, w, _ => Nat.le_refl _
  | m + 1, w, k => by
    unfold rsn
    split
    · omega
    · have := rsn_le g b m (rPut w (its g (b + k))) (k + 1)
      show _ ≤ _
      have e : (rPut w (its g (b + k))).1 = w.1 + 1 := rfl
      omega
def rpf (g : Nat → Int64) (t : Nat) (w : zWr) : Nat → Nat × zWr
  | 0 => (0, w)
  | f + 1 => if gf g f 1 = nI t then ((rpf g t w f).1 + 1, rsn g (58 + 51 * f + 6) 8 (if gf g f 6 = 0 then rPut (if 0 < (rpf g t w f).1 then rPut (rpf g t w f).2 (nI 44) else (rpf g t w f).2) (nI 45) else (if 0 < (rpf g t w f).1 then rPut (rpf g t w f).2 (nI 44) else (rpf g t w f).2)) 0) else rpf g t w f
def rhd (g : Nat → Int64) (t : Nat) (w : zWr) : zWr := rPut (rsn g (6 + 13 * t + 5) 8 (if 0 < t then rPut w (nI 32) else w) 0) (nI 58)
def rwt (g : Nat → Int64) (w : zWr) : Nat → zWr
  | 0 => w
  | t + 1 => (rpf g t (rhd g t (rwt g w t)) (gN g 3)).2
def rWb (g : Nat → Int64) (w : zWr) : Prop := ∀ t, t < gN g 2 → (rwt g w t).1 ≤ 280 ∧ ∀ f, f ≤ gN g 3 → (rpf g t (rhd g t (rwt g w t)) f).2.1 ≤ 280
theorem rpf_n {g : Nat → Int64} {t : Nat} {w : zWr} : ∀ f, (rpf g t w f).1 ≤ f
  | 0 => Nat.le_refl 0
  | f + 1 => by
    have := rpf_n (g := g) (t := t) (w := w) f
    unfold rpf
    split
    · show _ + 1 ≤ _; omega
    · omega
section
variable {l : Launch} {G : zG}
theorem c_X9_says (hl : l.stackTraces = false) {M : zMem} (hm : mSh M) {g : Nat → Int64} {w : zWr} (hw : w.1 < 300) (v : Int64) : zCm l G mX9_says 0 0 0 0 [.ref 941, .long (v)] (zsL (zWx M w) 942 g) (zD none (zsL (zWx M (rPut w v.toInt32)) 942 g)) := by
  refine zCd.of (ls0 := [some (.ref 941), some (.long (v)), none]) (by decide +kernel) rfl hl rfl (Nat.le_of_ble_eq_true rfl) rfl ?_
  refine s_aload_n (zdk hX9_says 0 rfl) rfl ?_
  refine s_getR (zdk hX9_says 1 rfl) fw_X9_55 rfl (hm.1) (show _ = some 955 from (hm.r (i := 13) rfl).1) ?_
  refine s_aload_n (zdk hX9_says 2 rfl) rfl ?_
  refine s_getI (zdk hX9_says 3 rfl) fw_X9_351 rfl (hm.1) ?_
  refine s_topi (b := nI w.1) (zWx_31) ?_
  refine s_lload_n (zdk hX9_says 4 rfl) rfl ?_
  refine s_l2i (zdk hX9_says 5 rfl) ?_
  refine s_iastoreN (N := 300) (j := w.1) (zdk hX9_says 6 rfl) ((hm.r (i := 13) rfl).2.1) ((hm.r (i := 13) rfl).2.2) (by omega) (by decide) ?_
  refine s_mem (M' := (zsL (zsI (zWx M w) 955 (w.1) ((v).toInt32)) 942 g)) rfl ?_
  refine s_aload_n (zdk hX9_says 7 rfl) rfl ?_
  refine s_dupr (zdk hX9_says 8 rfl) ?_
  refine s_getI (zdk hX9_says 9 rfl) fw_X9_351 rfl (hm.1) ?_
  refine s_topi (b := nI w.1) (zWx_31b) ?_
  refine s_iconstv (v := nI 1) (zdk hX9_says 10 rfl) zc_iconst_1 ?_
  refine s_iadd (zdk hX9_says 11 rfl) ?_
  refine s_topi (b := nI (w.1 + 1)) (nI_add _ _) ?_
  refine s_putI (zdk hX9_says 12 rfl) fw_X9_351 rfl pw_9_31 (hm.1) ?_
  refine s_mem (M' := (zsL (zWx M (rPut w v.toInt32)) 942 g)) (congrArg (fun q => zsL q 942 g) zWx_put) ?_
  refine s_return (zdk hX9_says 13 rfl) rfl ?_
  exact ⟨rfl, rfl⟩
theorem c_X9_saysI (hl : l.stackTraces = false) {M : zMem} (hm : mSh M) {g : Nat → Int64} {w : zWr} (hw : w.1 < 300) (x : Int32) : zCm l G mX9_says 0 0 0 0 [.ref 941, .long x.toInt64] (zsL (zWx M w) 942 g) (zD none (zsL (zWx M (rPut w x)) 942 g)) := by
  have h := c_X9_says (l := l) (G := G) hl hm (g := g) hw x.toInt64
  rw [i64] at h
  exact h
theorem w_X9_saysName_2 (hl : l.stackTraces = false) {M : zMem} (hm : mSh M) {g : Nat → Int64} {b : Nat} (hb8 : b + 8 ≤ 1390) : ∀ (k : Nat) (j : Nat) (w : zWr), j ≤ 8 → w.1 + (8 - j) ≤ 300 → 8 - j < k → zS l G mX9_saysName 1 30 0 0 2 [some (.ref 941), some (.int (nI b)), some (.int (nI j))] [] (zsL (zWx M w) 942 g) (zD none (zsL (zWx M (rsn g b (8 - j) w j)) 942 g)) := by
  intro k
  induction k with
  | zero => intros; omega
  | succ k ih =>
    intro j w hi hw hk
    refine s_iload_n (zdk hX9_saysName 2 rfl) rfl ?_
    refine s_bipushv (v := nI 8) (zdk hX9_saysName 3 rfl) zc_bipush_8 ?_
    refine s_icmp_ge 39 (zdk hX9_saysName 4 rfl) (by decide) (fun c5 => ?_) (fun c5 => ?_)
    · have n5 : 8 ≤ j := nle c5 (by omega) (by omega)
      obtain rfl : j = 8 := by omega
      refine s_return (zdk hX9_saysName 24 rfl) rfl ?_
      exact ⟨rfl, rfl⟩
    · have n5 : j < 8 := nlt c5 (by omega) (by omega)
      refine s_aload_n (zdk hX9_saysName 5 rfl) rfl ?_
      refine s_getR (zdk hX9_saysName 6 rfl) fw_X9_7 rfl (hm.1) (show _ = some 942 from (hm.r (i := 0) rfl).1) ?_
      refine s_iload_n (zdk hX9_saysName 7 rfl) rfl ?_
      refine s_iload_n (zdk hX9_saysName 8 rfl) rfl ?_
      refine s_iadd (zdk hX9_saysName 9 rfl) ?_
      refine s_topi (b := nI (b + j)) (nI_add _ _) ?_
      refine s_laloadN (N := 1390) (j := b + j) (zdk hX9_saysName 10 rfl) ((hm.r (i := 0) rfl).2.1) ((hm.r (i := 0) rfl).2.2) (by omega) (by decide) ?_
      refine s_topl (b := g (b + j)) (congrFun zJ_Le _) ?_
      refine s_lconstv (v := lN 0) (zdk hX9_saysName 11 rfl) rfl ?_
      refine s_lcmp (zdk hX9_saysName 12 rfl) ?_
      refine s_if_le 39 (zdk hX9_saysName 13 rfl) (by decide) (fun c18 => ?_) (fun c18 => ?_)
      · rw [rsn_s n5, if_pos (lcmp_le c18)]
        refine s_return (zdk hX9_saysName 24 rfl) rfl ?_
        exact ⟨rfl, rfl⟩
      · rw [rsn_s n5, if_neg (Int64.not_le.mpr (lcmp_gt c18))]
        refine s_aload_n (zdk hX9_saysName 14 rfl) rfl ?_
        refine s_aload_n (zdk hX9_saysName 15 rfl) rfl ?_
        refine s_getR (zdk hX9_saysName 16 rfl) fw_X9_7 rfl (hm.1) (show _ = some 942 from (hm.r (i := 0) rfl).1) ?_
        refine s_iload_n (zdk hX9_saysName 17 rfl) rfl ?_
        refine s_iload_n (zdk hX9_saysName 18 rfl) rfl ?_
        refine s_iadd (zdk hX9_saysName 19 rfl) ?_
        refine s_topi (b := nI (b + j)) (nI_add _ _) ?_
        refine s_laloadN (N := 1390) (j := b + j) (zdk hX9_saysName 20 rfl) ((hm.r (i := 0) rfl).2.1) ((hm.r (i := 0) rfl).2.2) (by omega) (by decide) ?_
        refine s_topl (b := g (b + j)) (congrFun zJ_Le _) ?_
        refine s_callV0 (ci := 9) [.long (g (b + j))] (zdk hX9_saysName 21 rfl) cw_X9_354 (hm.1) (by decide) rfl rfl rfl (Nat.le_of_ble_eq_true rfl) (by decide) (c_X9_says hl hm (g := g) (w := w) (by omega) (g (b + j))) ?_
        refine s_iinc (r := nI (j + 1)) (zdk hX9_saysName 22 rfl) (Nat.le_of_ble_eq_true rfl) rfl (nI_1 _) ?_
        refine s_ls (ls' := [some (.ref 941), some (.int (nI b)), some (.int (nI (j + 1)))]) rfl ?_
        refine s_goto 2 (zdk hX9_saysName 23 rfl) (by decide) ?_
        exact ih (j + 1) (rPut w (its g (b + j))) (by omega) (by show w.1 + 1 + _ ≤ _; omega) (by omega)
theorem c_X9_saysName (hl : l.stackTraces = false) {M : zMem} (hm : mSh M) {g : Nat → Int64} {b : Nat} (hb8 : b + 8 ≤ 1390) {w : zWr} (hw : w.1 + 8 ≤ 300) : zCm l G mX9_saysName 1 30 0 0 [.ref 941, .int (nI b)] (zsL (zWx M w) 942 g) (zD none (zsL (zWx M (rsn g b 8 w 0)) 942 g)) := by
  refine zCd.of (ls0 := [some (.ref 941), some (.int (nI b)), none]) (by decide +kernel) rfl hl rfl (Nat.le_of_ble_eq_true rfl) rfl ?_
  refine s_iconstv (v := nI 0) (zdk hX9_saysName 0 rfl) zc_iconst_0 ?_
  refine s_istore_n (zdk hX9_saysName 1 rfl) (Nat.le_of_ble_eq_true rfl) ?_
  refine s_ls (ls' := [some (.ref 941), some (.int (nI b)), some (.int (nI 0))]) rfl ?_
  exact w_X9_saysName_2 hl hm hb8 9 0 w (by omega) (by omega) (by omega)
theorem w_X9_writeTiers_55 (hl : l.stackTraces = false) {M : zMem} (hm : mSh M) {g : Nat → Int64} (hb : gBd g) {t : Nat} (ht : t < gN g 2) {w : zWr} (hwb : ∀ f, f ≤ gN g 3 → (rpf g t w f).2.1 ≤ 280) {Q : zOut → zMem → Prop} (kk : zS l G mX9_writeTiers 2 52 0 0 127 [some (.ref 941), some (.int (nI t)), some (.int (nI ((rpf g t w (gN g 3)).1))), some (.int (nI (gN g 3)))] [] (zsL (zWx M (rpf g t w (gN g 3)).2) 942 g) Q) : ∀ (k : Nat) (f : Nat), f ≤ gN g 3 → gN g 3 - f < k → zS l G mX9_writeTiers 2 52 0 0 55 [some (.ref 941), some (.int (nI t)), some (.int (nI ((rpf g t w f).1))), some (.int (nI f))] [] (zsL (zWx M (rpf g t w f).2) 942 g) Q := by
  intro k
  induction k with
  | zero => intros; omega
  | succ k ih =>
    intro f hi hk
    have hn := hb.2.2.1.2
    have ht4 := hb.2.1.2
    have hwf := hwb f hi
    have hrn := rpf_n (g := g) (t := t) (w := w) f
    refine s_iload_n (zdk hX9_writeTiers_0 33 rfl) rfl ?_
    refine s_aload_n (zdk hX9_writeTiers_0 34 rfl) rfl ?_
    refine s_callV0 (ci := 9) [] (zdk hX9_writeTiers_0 35 rfl) cw_X9_180 (hm.1) (by decide) rfl rfl rfl (Nat.le_of_ble_eq_true rfl) (by decide) (c_X9_files hl (M := (zWx M (rpf g t w f).2)) (g := g) hm hb) ?_
    refine s_icmp_ge 127 (zdk hX9_writeTiers_0 36 rfl) (by decide) (fun c60 => ?_) (fun c60 => ?_)
    · have n60 : gN g 3 ≤ f := nle c60 (by omega) (by omega)
      obtain rfl : f = gN g 3 := by omega
      exact kk
    · have n60 : f < gN g 3 := nlt c60 (by omega) (by omega)
      refine s_aload_n (zdk hX9_writeTiers_0 37 rfl) rfl ?_
      refine s_iload_n (zdk hX9_writeTiers_0 38 rfl) rfl ?_
      refine s_iconstv (v := nI 1) (zdk hX9_writeTiers_0 39 rfl) zc_iconst_1 ?_
      refine s_callV0 (ci := 9) [.int (nI f), .int (nI 1)] (zdk hX9_writeTiers_0 40 rfl) cw_X9_211 (hm.1) (by decide) rfl rfl rfl (Nat.le_of_ble_eq_true rfl) (by decide) (c_X9_of hl (M := (zWx M (rpf g t w f).2)) (g := g) hm (f := f) (k := 1) (by omega)) ?_
      refine s_iload_n (zdk hX9_writeTiers_0 41 rfl) rfl ?_
      refine s_icmp_eq 76 (zdk hX9_writeTiers_0 42 rfl) (by decide) (fun c70 => ?_) (fun c70 => ?_)
      · have e1 : (rpf g t w (f + 1)) = ((rpf g t w f).1 + 1, rsn g (58 + 51 * f + 6) 8 (if gf g f 6 = 0 then rPut (if 0 < (rpf g t w f).1 then rPut (rpf g t w f).2 (nI 44) else (rpf g t w f).2) (nI 45) else (if 0 < (rpf g t w f).1 then rPut (rpf g t w f).2 (nI 44) else (rpf g t w f).2)) 0) := if_pos c70
        refine s_iload_n (zdk hX9_writeTiers_0 44 rfl) rfl ?_
        refine s_if_le 87 (zdk hX9_writeTiers_0 45 rfl) (by decide) (fun c77 => ?_) (fun c77 => ?_)
        · have hA : (if 0 < (rpf g t w f).1 then rPut (rpf g t w f).2 (nI 44) else (rpf g t w f).2) = (rpf g t w f).2 := if_neg (fun q => nI_nle q (by omega) c77)
          refine s_mem (M' := (zsL (zWx M (if 0 < (rpf g t w f).1 then rPut (rpf g t w f).2 (nI 44) else (rpf g t w f).2)) 942 g)) (by rw [hA]) ?_
          have hA1 : (if 0 < (rpf g t w f).1 then rPut (rpf g t w f).2 (nI 44) else (rpf g t w f).2).1 ≤ (rpf g t w f).2.1 + 1 := rPut_if _ _
          refine s_aload_n (zdk hX9_writeTiers_0 49 rfl) rfl ?_
          refine s_iload_n (zdk hX9_writeTiers_0 50 rfl) rfl ?_
          refine s_bipushv (v := nI 6) (zdk hX9_writeTiers_0 51 rfl) zc_bipush_6 ?_
          refine s_callV0 (ci := 9) [.int (nI f), .int (nI 6)] (zdk hX9_writeTiers_0 52 rfl) cw_X9_211 (hm.1) (by decide) rfl rfl rfl (Nat.le_of_ble_eq_true rfl) (by decide) (c_X9_of hl (M := (zWx M (if 0 < (rpf g t w f).1 then rPut (rpf g t w f).2 (nI 44) else (rpf g t w f).2))) (g := g) hm (f := f) (k := 6) (by omega)) ?_
          refine s_if_ne 104 (zdk hX9_writeTiers_0 53 rfl) (by decide) (fun c94 => ?_) (fun c94 => ?_)
          · have hB : (if gf g f 6 = 0 then rPut (if 0 < (rpf g t w f).1 then rPut (rpf g t w f).2 (nI 44) else (rpf g t w f).2) (nI 45) else (if 0 < (rpf g t w f).1 then rPut (rpf g t w f).2 (nI 44) else (rpf g t w f).2)) = (if 0 < (rpf g t w f).1 then rPut (rpf g t w f).2 (nI 44) else (rpf g t w f).2) := if_neg c94
            refine s_mem (M' := (zsL (zWx M (if gf g f 6 = 0 then rPut (if 0 < (rpf g t w f).1 then rPut (rpf g t w f).2 (nI 44) else (rpf g t w f).2) (nI 45) else (if 0 < (rpf g t w f).1 then rPut (rpf g t w f).2 (nI 44) else (rpf g t w f).2))) 942 g)) (by rw [hB]) ?_
            have hB1 : (if gf g f 6 = 0 then rPut (if 0 < (rpf g t w f).1 then rPut (rpf g t w f).2 (nI 44) else (rpf g t w f).2) (nI 45) else (if 0 < (rpf g t w f).1 then rPut (rpf g t w f).2 (nI 44) else (rpf g t w f).2)).1 ≤ (if 0 < (rpf g t w f).1 then rPut (rpf g t w f).2 (nI 44) else (rpf g t w f).2).1 + 1 := rPut_if _ _
            refine s_aload_n (zdk hX9_writeTiers_0 57 rfl) rfl ?_
            refine s_bipushv (v := nI 58) (zdk hX9_writeTiers_0 58 rfl) zc_bipush_58 ?_
            refine s_bipushv (v := nI 51) (zdk hX9_writeTiers_0 59 rfl) zc_bipush_51 ?_
            refine s_iload_n (zdk hX9_writeTiers_1 0 rfl) rfl ?_
            refine s_imul (zdk hX9_writeTiers_1 1 rfl) ?_
            refine s_topi (b := nI (51 * f)) (pk_mul _ _) ?_
            refine s_iadd (zdk hX9_writeTiers_1 2 rfl) ?_
            refine s_topi (b := nI (58 + 51 * f)) (nI_add _ _) ?_
            refine s_bipushv (v := nI 6) (zdk hX9_writeTiers_1 3 rfl) zc_bipush_6 ?_
            refine s_iadd (zdk hX9_writeTiers_1 4 rfl) ?_
            refine s_topi (b := nI (58 + 51 * f + 6)) (nI_add _ _) ?_
            refine s_callV0 (ci := 9) [.int (nI (58 + 51 * f + 6))] (zdk hX9_writeTiers_1 5 rfl) cw_X9_360 (hm.1) (by decide) rfl rfl rfl (Nat.le_of_ble_eq_true rfl) (by decide) (c_X9_saysName hl hm (g := g) (b := 58 + 51 * f + 6) (by omega) (w := (if gf g f 6 = 0 then rPut (if 0 < (rpf g t w f).1 then rPut (rpf g t w f).2 (nI 44) else (rpf g t w f).2) (nI 45) else (if 0 < (rpf g t w f).1 then rPut (rpf g t w f).2 (nI 44) else (rpf g t w f).2))) (by omega)) ?_
            refine s_iinc (r := nI ((rpf g t w f).1 + 1)) (zdk hX9_writeTiers_1 6 rfl) (Nat.le_of_ble_eq_true rfl) rfl (nI_1 _) ?_
            refine s_ls (ls' := [some (.ref 941), some (.int (nI t)), some (.int (nI ((rpf g t w f).1 + 1))), some (.int (nI f))]) rfl ?_
            refine s_mem (M' := (zsL (zWx M (rpf g t w (f + 1)).2) 942 g)) (by rw [e1]) ?_
            refine s_ls (ls' := [some (.ref 941), some (.int (nI t)), some (.int (nI ((rpf g t w (f + 1)).1))), some (.int (nI f))]) (by rw [e1]) ?_
            refine s_iinc (r := nI (f + 1)) (zdk hX9_writeTiers_1 7 rfl) (Nat.le_of_ble_eq_true rfl) rfl (nI_1 _) ?_
            refine s_ls (ls' := [some (.ref 941), some (.int (nI t)), some (.int (nI ((rpf g t w (f + 1)).1))), some (.int (nI (f + 1)))]) rfl ?_
            refine s_goto 55 (zdk hX9_writeTiers_1 8 rfl) (by decide) ?_
            exact ih (f + 1) (by omega) (by omega)
          · have hB : (if gf g f 6 = 0 then rPut (if 0 < (rpf g t w f).1 then rPut (rpf g t w f).2 (nI 44) else (rpf g t w f).2) (nI 45) else (if 0 < (rpf g t w f).1 then rPut (rpf g t w f).2 (nI 44) else (rpf g t w f).2)) = rPut (if 0 < (rpf g t w f).1 then rPut (rpf g t w f).2 (nI 44) else (rpf g t w f).2) (nI 45) := if_pos c94
            refine s_aload_n (zdk hX9_writeTiers_0 54 rfl) rfl ?_
            refine s_ldc2 (zdk hX9_writeTiers_0 55 rfl) kw_X9_367 ?_
            refine s_topl (b := (nI 45).toInt64) (by decide) ?_
            refine s_callV0 (ci := 9) [.long ((nI 45).toInt64)] (zdk hX9_writeTiers_0 56 rfl) cw_X9_354 (hm.1) (by decide) rfl rfl rfl (Nat.le_of_ble_eq_true rfl) (by decide) (c_X9_saysI hl hm (g := g) (w := (if 0 < (rpf g t w f).1 then rPut (rpf g t w f).2 (nI 44) else (rpf g t w f).2)) (by omega) (nI 45)) ?_
            refine s_mem (M' := (zsL (zWx M (if gf g f 6 = 0 then rPut (if 0 < (rpf g t w f).1 then rPut (rpf g t w f).2 (nI 44) else (rpf g t w f).2) (nI 45) else (if 0 < (rpf g t w f).1 then rPut (rpf g t w f).2 (nI 44) else (rpf g t w f).2))) 942 g)) (by rw [hB]) ?_
            have hB1 : (if gf g f 6 = 0 then rPut (if 0 < (rpf g t w f).1 then rPut (rpf g t w f).2 (nI 44) else (rpf g t w f).2) (nI 45) else (if 0 < (rpf g t w f).1 then rPut (rpf g t w f).2 (nI 44) else (rpf g t w f).2)).1 ≤ (if 0 < (rpf g t w f).1 then rPut (rpf g t w f).2 (nI 44) else (rpf g t w f).2).1 + 1 := rPut_if _ _
            refine s_aload_n (zdk hX9_writeTiers_0 57 rfl) rfl ?_
            refine s_bipushv (v := nI 58) (zdk hX9_writeTiers_0 58 rfl) zc_bipush_58 ?_
            refine s_bipushv (v := nI 51) (zdk hX9_writeTiers_0 59 rfl) zc_bipush_51 ?_
            refine s_iload_n (zdk hX9_writeTiers_1 0 rfl) rfl ?_
            refine s_imul (zdk hX9_writeTiers_1 1 rfl) ?_
            refine s_topi (b := nI (51 * f)) (pk_mul _ _) ?_
            refine s_iadd (zdk hX9_writeTiers_1 2 rfl) ?_
            refine s_topi (b := nI (58 + 51 * f)) (nI_add _ _) ?_
            refine s_bipushv (v := nI 6) (zdk hX9_writeTiers_1 3 rfl) zc_bipush_6 ?_
            refine s_iadd (zdk hX9_writeTiers_1 4 rfl) ?_
            refine s_topi (b := nI (58 + 51 * f + 6)) (nI_add _ _) ?_
            refine s_callV0 (ci := 9) [.int (nI (58 + 51 * f + 6))] (zdk hX9_writeTiers_1 5 rfl) cw_X9_360 (hm.1) (by decide) rfl rfl rfl (Nat.le_of_ble_eq_true rfl) (by decide) (c_X9_saysName hl hm (g := g) (b := 58 + 51 * f + 6) (by omega) (w := (if gf g f 6 = 0 then rPut (if 0 < (rpf g t w f).1 then rPut (rpf g t w f).2 (nI 44) else (rpf g t w f).2) (nI 45) else (if 0 < (rpf g t w f).1 then rPut (rpf g t w f).2 (nI 44) else (rpf g t w f).2))) (by omega)) ?_
            refine s_iinc (r := nI ((rpf g t w f).1 + 1)) (zdk hX9_writeTiers_1 6 rfl) (Nat.le_of_ble_eq_true rfl) rfl (nI_1 _) ?_
            refine s_ls (ls' := [some (.ref 941), some (.int (nI t)), some (.int (nI ((rpf g t w f).1 + 1))), some (.int (nI f))]) rfl ?_
            refine s_mem (M' := (zsL (zWx M (rpf g t w (f + 1)).2) 942 g)) (by rw [e1]) ?_
            refine s_ls (ls' := [some (.ref 941), some (.int (nI t)), some (.int (nI ((rpf g t w (f + 1)).1))), some (.int (nI f))]) (by rw [e1]) ?_
            refine s_iinc (r := nI (f + 1)) (zdk hX9_writeTiers_1 7 rfl) (Nat.le_of_ble_eq_true rfl) rfl (nI_1 _) ?_
            refine s_ls (ls' := [some (.ref 941), some (.int (nI t)), some (.int (nI ((rpf g t w (f + 1)).1))), some (.int (nI (f + 1)))]) rfl ?_
            refine s_goto 55 (zdk hX9_writeTiers_1 8 rfl) (by decide) ?_
            exact ih (f + 1) (by omega) (by omega)
        · have hA : (if 0 < (rpf g t w f).1 then rPut (rpf g t w f).2 (nI 44) else (rpf g t w f).2) = rPut (rpf g t w f).2 (nI 44) := if_pos (Nat.pos_of_ne_zero (fun q => c77 (by rw [q]; decide)))
          refine s_aload_n (zdk hX9_writeTiers_0 46 rfl) rfl ?_
          refine s_ldc2 (zdk hX9_writeTiers_0 47 rfl) kw_X9_365 ?_
          refine s_topl (b := (nI 44).toInt64) (by decide) ?_
          refine s_callV0 (ci := 9) [.long ((nI 44).toInt64)] (zdk hX9_writeTiers_0 48 rfl) cw_X9_354 (hm.1) (by decide) rfl rfl rfl (Nat.le_of_ble_eq_true rfl) (by decide) (c_X9_saysI hl hm (g := g) (w := (rpf g t w f).2) (by omega) (nI 44)) ?_
          refine s_mem (M' := (zsL (zWx M (if 0 < (rpf g t w f).1 then rPut (rpf g t w f).2 (nI 44) else (rpf g t w f).2)) 942 g)) (by rw [hA]) ?_
          have hA1 : (if 0 < (rpf g t w f).1 then rPut (rpf g t w f).2 (nI 44) else (rpf g t w f).2).1 ≤ (rpf g t w f).2.1 + 1 := rPut_if _ _
          refine s_aload_n (zdk hX9_writeTiers_0 49 rfl) rfl ?_
          refine s_iload_n (zdk hX9_writeTiers_0 50 rfl) rfl ?_
          refine s_bipushv (v := nI 6) (zdk hX9_writeTiers_0 51 rfl) zc_bipush_6 ?_
          refine s_callV0 (ci := 9) [.int (nI f), .int (nI 6)] (zdk hX9_writeTiers_0 52 rfl) cw_X9_211 (hm.1) (by decide) rfl rfl rfl (Nat.le_of_ble_eq_true rfl) (by decide) (c_X9_of hl (M := (zWx M (if 0 < (rpf g t w f).1 then rPut (rpf g t w f).2 (nI 44) else (rpf g t w f).2))) (g := g) hm (f := f) (k := 6) (by omega)) ?_
          refine s_if_ne 104 (zdk hX9_writeTiers_0 53 rfl) (by decide) (fun c94 => ?_) (fun c94 => ?_)
          · have hB : (if gf g f 6 = 0 then rPut (if 0 < (rpf g t w f).1 then rPut (rpf g t w f).2 (nI 44) else (rpf g t w f).2) (nI 45) else (if 0 < (rpf g t w f).1 then rPut (rpf g t w f).2 (nI 44) else (rpf g t w f).2)) = (if 0 < (rpf g t w f).1 then rPut (rpf g t w f).2 (nI 44) else (rpf g t w f).2) := if_neg c94
            refine s_mem (M' := (zsL (zWx M (if gf g f 6 = 0 then rPut (if 0 < (rpf g t w f).1 then rPut (rpf g t w f).2 (nI 44) else (rpf g t w f).2) (nI 45) else (if 0 < (rpf g t w f).1 then rPut (rpf g t w f).2 (nI 44) else (rpf g t w f).2))) 942 g)) (by rw [hB]) ?_
            have hB1 : (if gf g f 6 = 0 then rPut (if 0 < (rpf g t w f).1 then rPut (rpf g t w f).2 (nI 44) else (rpf g t w f).2) (nI 45) else (if 0 < (rpf g t w f).1 then rPut (rpf g t w f).2 (nI 44) else (rpf g t w f).2)).1 ≤ (if 0 < (rpf g t w f).1 then rPut (rpf g t w f).2 (nI 44) else (rpf g t w f).2).1 + 1 := rPut_if _ _
            refine s_aload_n (zdk hX9_writeTiers_0 57 rfl) rfl ?_
            refine s_bipushv (v := nI 58) (zdk hX9_writeTiers_0 58 rfl) zc_bipush_58 ?_
            refine s_bipushv (v := nI 51) (zdk hX9_writeTiers_0 59 rfl) zc_bipush_51 ?_
            refine s_iload_n (zdk hX9_writeTiers_1 0 rfl) rfl ?_
            refine s_imul (zdk hX9_writeTiers_1 1 rfl) ?_
            refine s_topi (b := nI (51 * f)) (pk_mul _ _) ?_
            refine s_iadd (zdk hX9_writeTiers_1 2 rfl) ?_
            refine s_topi (b := nI (58 + 51 * f)) (nI_add _ _) ?_
            refine s_bipushv (v := nI 6) (zdk hX9_writeTiers_1 3 rfl) zc_bipush_6 ?_
            refine s_iadd (zdk hX9_writeTiers_1 4 rfl) ?_
            refine s_topi (b := nI (58 + 51 * f + 6)) (nI_add _ _) ?_
            refine s_callV0 (ci := 9) [.int (nI (58 + 51 * f + 6))] (zdk hX9_writeTiers_1 5 rfl) cw_X9_360 (hm.1) (by decide) rfl rfl rfl (Nat.le_of_ble_eq_true rfl) (by decide) (c_X9_saysName hl hm (g := g) (b := 58 + 51 * f + 6) (by omega) (w := (if gf g f 6 = 0 then rPut (if 0 < (rpf g t w f).1 then rPut (rpf g t w f).2 (nI 44) else (rpf g t w f).2) (nI 45) else (if 0 < (rpf g t w f).1 then rPut (rpf g t w f).2 (nI 44) else (rpf g t w f).2))) (by omega)) ?_
            refine s_iinc (r := nI ((rpf g t w f).1 + 1)) (zdk hX9_writeTiers_1 6 rfl) (Nat.le_of_ble_eq_true rfl) rfl (nI_1 _) ?_
            refine s_ls (ls' := [some (.ref 941), some (.int (nI t)), some (.int (nI ((rpf g t w f).1 + 1))), some (.int (nI f))]) rfl ?_
            refine s_mem (M' := (zsL (zWx M (rpf g t w (f + 1)).2) 942 g)) (by rw [e1]) ?_
            refine s_ls (ls' := [some (.ref 941), some (.int (nI t)), some (.int (nI ((rpf g t w (f + 1)).1))), some (.int (nI f))]) (by rw [e1]) ?_
            refine s_iinc (r := nI (f + 1)) (zdk hX9_writeTiers_1 7 rfl) (Nat.le_of_ble_eq_true rfl) rfl (nI_1 _) ?_
            refine s_ls (ls' := [some (.ref 941), some (.int (nI t)), some (.int (nI ((rpf g t w (f + 1)).1))), some (.int (nI (f + 1)))]) rfl ?_
            refine s_goto 55 (zdk hX9_writeTiers_1 8 rfl) (by decide) ?_
            exact ih (f + 1) (by omega) (by omega)
          · have hB : (if gf g f 6 = 0 then rPut (if 0 < (rpf g t w f).1 then rPut (rpf g t w f).2 (nI 44) else (rpf g t w f).2) (nI 45) else (if 0 < (rpf g t w f).1 then rPut (rpf g t w f).2 (nI 44) else (rpf g t w f).2)) = rPut (if 0 < (rpf g t w f).1 then rPut (rpf g t w f).2 (nI 44) else (rpf g t w f).2) (nI 45) := if_pos c94
            refine s_aload_n (zdk hX9_writeTiers_0 54 rfl) rfl ?_
            refine s_ldc2 (zdk hX9_writeTiers_0 55 rfl) kw_X9_367 ?_
            refine s_topl (b := (nI 45).toInt64) (by decide) ?_
            refine s_callV0 (ci := 9) [.long ((nI 45).toInt64)] (zdk hX9_writeTiers_0 56 rfl) cw_X9_354 (hm.1) (by decide) rfl rfl rfl (Nat.le_of_ble_eq_true rfl) (by decide) (c_X9_saysI hl hm (g := g) (w := (if 0 < (rpf g t w f).1 then rPut (rpf g t w f).2 (nI 44) else (rpf g t w f).2)) (by omega) (nI 45)) ?_
            refine s_mem (M' := (zsL (zWx M (if gf g f 6 = 0 then rPut (if 0 < (rpf g t w f).1 then rPut (rpf g t w f).2 (nI 44) else (rpf g t w f).2) (nI 45) else (if 0 < (rpf g t w f).1 then rPut (rpf g t w f).2 (nI 44) else (rpf g t w f).2))) 942 g)) (by rw [hB]) ?_
            have hB1 : (if gf g f 6 = 0 then rPut (if 0 < (rpf g t w f).1 then rPut (rpf g t w f).2 (nI 44) else (rpf g t w f).2) (nI 45) else (if 0 < (rpf g t w f).1 then rPut (rpf g t w f).2 (nI 44) else (rpf g t w f).2)).1 ≤ (if 0 < (rpf g t w f).1 then rPut (rpf g t w f).2 (nI 44) else (rpf g t w f).2).1 + 1 := rPut_if _ _
            refine s_aload_n (zdk hX9_writeTiers_0 57 rfl) rfl ?_
            refine s_bipushv (v := nI 58) (zdk hX9_writeTiers_0 58 rfl) zc_bipush_58 ?_
            refine s_bipushv (v := nI 51) (zdk hX9_writeTiers_0 59 rfl) zc_bipush_51 ?_
            refine s_iload_n (zdk hX9_writeTiers_1 0 rfl) rfl ?_
            refine s_imul (zdk hX9_writeTiers_1 1 rfl) ?_
            refine s_topi (b := nI (51 * f)) (pk_mul _ _) ?_
            refine s_iadd (zdk hX9_writeTiers_1 2 rfl) ?_
            refine s_topi (b := nI (58 + 51 * f)) (nI_add _ _) ?_
            refine s_bipushv (v := nI 6) (zdk hX9_writeTiers_1 3 rfl) zc_bipush_6 ?_
            refine s_iadd (zdk hX9_writeTiers_1 4 rfl) ?_
            refine s_topi (b := nI (58 + 51 * f + 6)) (nI_add _ _) ?_
            refine s_callV0 (ci := 9) [.int (nI (58 + 51 * f + 6))] (zdk hX9_writeTiers_1 5 rfl) cw_X9_360 (hm.1) (by decide) rfl rfl rfl (Nat.le_of_ble_eq_true rfl) (by decide) (c_X9_saysName hl hm (g := g) (b := 58 + 51 * f + 6) (by omega) (w := (if gf g f 6 = 0 then rPut (if 0 < (rpf g t w f).1 then rPut (rpf g t w f).2 (nI 44) else (rpf g t w f).2) (nI 45) else (if 0 < (rpf g t w f).1 then rPut (rpf g t w f).2 (nI 44) else (rpf g t w f).2))) (by omega)) ?_
            refine s_iinc (r := nI ((rpf g t w f).1 + 1)) (zdk hX9_writeTiers_1 6 rfl) (Nat.le_of_ble_eq_true rfl) rfl (nI_1 _) ?_
            refine s_ls (ls' := [some (.ref 941), some (.int (nI t)), some (.int (nI ((rpf g t w f).1 + 1))), some (.int (nI f))]) rfl ?_
            refine s_mem (M' := (zsL (zWx M (rpf g t w (f + 1)).2) 942 g)) (by rw [e1]) ?_
            refine s_ls (ls' := [some (.ref 941), some (.int (nI t)), some (.int (nI ((rpf g t w (f + 1)).1))), some (.int (nI f))]) (by rw [e1]) ?_
            refine s_iinc (r := nI (f + 1)) (zdk hX9_writeTiers_1 7 rfl) (Nat.le_of_ble_eq_true rfl) rfl (nI_1 _) ?_
            refine s_ls (ls' := [some (.ref 941), some (.int (nI t)), some (.int (nI ((rpf g t w (f + 1)).1))), some (.int (nI (f + 1)))]) rfl ?_
            refine s_goto 55 (zdk hX9_writeTiers_1 8 rfl) (by decide) ?_
            exact ih (f + 1) (by omega) (by omega)
      · have e1 : (rpf g t w (f + 1)) = (rpf g t w f) := if_neg c70
        refine s_goto 121 (zdk hX9_writeTiers_0 43 rfl) (by decide) ?_
        refine s_mem (M' := (zsL (zWx M (rpf g t w (f + 1)).2) 942 g)) (by rw [e1]) ?_
        refine s_ls (ls' := [some (.ref 941), some (.int (nI t)), some (.int (nI ((rpf g t w (f + 1)).1))), some (.int (nI f))]) (by rw [e1]) ?_
        refine s_iinc (r := nI (f + 1)) (zdk hX9_writeTiers_1 7 rfl) (Nat.le_of_ble_eq_true rfl) rfl (nI_1 _) ?_
        refine s_ls (ls' := [some (.ref 941), some (.int (nI t)), some (.int (nI ((rpf g t w (f + 1)).1))), some (.int (nI (f + 1)))]) rfl ?_
        refine s_goto 55 (zdk hX9_writeTiers_1 8 rfl) (by decide) ?_
        exact ih (f + 1) (by omega) (by omega)
theorem w_X9_writeTiers_12 (hl : l.stackTraces = false) {M : zMem} (hm : mSh M) {g : Nat → Int64} (hb : gBd g) {w0 : zWr} (hwb : rWb g w0) : ∀ (k : Nat) (t : Nat) (x2 x3 : Option Value), t ≤ gN g 2 → gN g 2 - t < k → zS l G mX9_writeTiers 2 52 0 0 12 [some (.ref 941), some (.int (nI t)), x2, x3] [] (zsL (zWx (zsI M 941 6 (nI 0)) (rwt g w0 t)) 942 g) (zD (some (.int (nI ((rwt g w0 (gN g 2)).1)))) (zsL (zWx (zsI M 941 6 (nI 0)) (rwt g w0 (gN g 2))) 942 g)) := by
  intro k
  induction k with
  | zero => intros; omega
  | succ k ih =>
    intro t x2 x3 hi hk
    have hn := hb.2.2.1.2
    have ht4 := hb.2.1.2
    have hwt : t < gN g 2 → (rwt g w0 t).1 ≤ 280 := fun q => (hwb t q).1
    refine s_iload_n (zdk hX9_writeTiers_0 8 rfl) rfl ?_
    refine s_aload_n (zdk hX9_writeTiers_0 9 rfl) rfl ?_
    refine s_callV0 (ci := 9) [] (zdk hX9_writeTiers_0 10 rfl) cw_X9_154 (hm.1) (by decide) rfl rfl rfl (Nat.le_of_ble_eq_true rfl) (by decide) (c_X9_tiers hl (M := (zWx (zsI M 941 6 (nI 0)) (rwt g w0 t))) (g := g) hm hb) ?_
    refine s_icmp_ge 133 (zdk hX9_writeTiers_0 11 rfl) (by decide) (fun c17 => ?_) (fun c17 => ?_)
    · have n17 : gN g 2 ≤ t := nle c17 (by omega) (by omega)
      obtain rfl : t = gN g 2 := by omega
      refine s_aload_n (zdk hX9_writeTiers_1 11 rfl) rfl ?_
      refine s_getI (zdk hX9_writeTiers_1 12 rfl) fw_X9_351 rfl (hm.1) ?_
      refine s_topi (b := nI (rwt g w0 (gN g 2)).1) (zWx_31) ?_
      refine s_ireturn (zdk hX9_writeTiers_1 13 rfl) rfl rfl ?_
      exact ⟨rfl, rfl⟩
    · have n17 : t < gN g 2 := nlt c17 (by omega) (by omega)
      have hwt2 := hwt n17
      refine s_iload_n (zdk hX9_writeTiers_0 12 rfl) rfl ?_
      refine s_if_le 31 (zdk hX9_writeTiers_0 13 rfl) (by decide) (fun c21 => ?_) (fun c21 => ?_)
      · have hS : (if 0 < t then rPut (rwt g w0 t) (nI 32) else (rwt g w0 t)) = (rwt g w0 t) := if_neg (fun q => nI_nle q (by omega) c21)
        refine s_mem (M' := (zsL (zWx (zsI M 941 6 (nI 0)) (if 0 < t then rPut (rwt g w0 t) (nI 32) else (rwt g w0 t))) 942 g)) (by rw [hS]) ?_
        have hS1 : (if 0 < t then rPut (rwt g w0 t) (nI 32) else (rwt g w0 t)).1 ≤ (rwt g w0 t).1 + 1 := rPut_if _ _
        have hS2 := rsn_le g (6 + 13 * t + 5) 8 (if 0 < t then rPut (rwt g w0 t) (nI 32) else (rwt g w0 t)) 0
        refine s_aload_n (zdk hX9_writeTiers_0 17 rfl) rfl ?_
        refine s_bipushv (v := nI 6) (zdk hX9_writeTiers_0 18 rfl) zc_bipush_6 ?_
        refine s_bipushv (v := nI 13) (zdk hX9_writeTiers_0 19 rfl) zc_bipush_13 ?_
        refine s_iload_n (zdk hX9_writeTiers_0 20 rfl) rfl ?_
        refine s_imul (zdk hX9_writeTiers_0 21 rfl) ?_
        refine s_topi (b := nI (13 * t)) (pk_mul _ _) ?_
        refine s_iadd (zdk hX9_writeTiers_0 22 rfl) ?_
        refine s_topi (b := nI (6 + 13 * t)) (nI_add _ _) ?_
        refine s_iconstv (v := nI 5) (zdk hX9_writeTiers_0 23 rfl) zc_iconst_5 ?_
        refine s_iadd (zdk hX9_writeTiers_0 24 rfl) ?_
        refine s_topi (b := nI (6 + 13 * t + 5)) (nI_add _ _) ?_
        refine s_callV0 (ci := 9) [.int (nI (6 + 13 * t + 5))] (zdk hX9_writeTiers_0 25 rfl) cw_X9_360 (hm.1) (by decide) rfl rfl rfl (Nat.le_of_ble_eq_true rfl) (by decide) (c_X9_saysName hl (M := (zsI M 941 6 (nI 0))) hm (g := g) (b := 6 + 13 * t + 5) (by omega) (w := (if 0 < t then rPut (rwt g w0 t) (nI 32) else (rwt g w0 t))) (by omega)) ?_
        refine s_aload_n (zdk hX9_writeTiers_0 26 rfl) rfl ?_
        refine s_ldc2 (zdk hX9_writeTiers_0 27 rfl) kw_X9_363 ?_
        refine s_topl (b := (nI 58).toInt64) (by decide) ?_
        refine s_callV0 (ci := 9) [.long ((nI 58).toInt64)] (zdk hX9_writeTiers_0 28 rfl) cw_X9_354 (hm.1) (by decide) rfl rfl rfl (Nat.le_of_ble_eq_true rfl) (by decide) (c_X9_saysI hl (M := (zsI M 941 6 (nI 0))) hm (g := g) (w := (rsn g (6 + 13 * t + 5) 8 (if 0 < t then rPut (rwt g w0 t) (nI 32) else (rwt g w0 t)) 0)) (by omega) (nI 58)) ?_
        refine s_iconstv (v := nI 0) (zdk hX9_writeTiers_0 29 rfl) zc_iconst_0 ?_
        refine s_istore_n (zdk hX9_writeTiers_0 30 rfl) (Nat.le_of_ble_eq_true rfl) ?_
        refine s_ls (ls' := [some (.ref 941), some (.int (nI t)), some (.int (nI 0)), x3]) rfl ?_
        refine s_iconstv (v := nI 0) (zdk hX9_writeTiers_0 31 rfl) zc_iconst_0 ?_
        refine s_istore_n (zdk hX9_writeTiers_0 32 rfl) (Nat.le_of_ble_eq_true rfl) ?_
        refine s_ls (ls' := [some (.ref 941), some (.int (nI t)), some (.int (nI 0)), some (.int (nI 0))]) rfl ?_
        refine w_X9_writeTiers_55 hl (M := (zsI M 941 6 (nI 0))) hm hb n17 (w := rhd g t (rwt g w0 t)) (hwb t n17).2 ?_ (gN g 3 + 1) 0 (by omega) (by omega)
        refine s_iinc (r := nI (t + 1)) (zdk hX9_writeTiers_1 9 rfl) (Nat.le_of_ble_eq_true rfl) rfl (nI_1 _) ?_
        refine s_ls (ls' := [some (.ref 941), some (.int (nI (t + 1))), some (.int (nI ((rpf g t (rhd g t (rwt g w0 t)) (gN g 3)).1))), some (.int (nI (gN g 3)))]) rfl ?_
        refine s_goto 12 (zdk hX9_writeTiers_1 10 rfl) (by decide) ?_
        exact ih (t + 1) _ _ (by omega) (by omega)
      · have hS : (if 0 < t then rPut (rwt g w0 t) (nI 32) else (rwt g w0 t)) = rPut (rwt g w0 t) (nI 32) := if_pos (Nat.pos_of_ne_zero (fun q => c21 (by rw [q]; decide)))
        refine s_aload_n (zdk hX9_writeTiers_0 14 rfl) rfl ?_
        refine s_ldc2 (zdk hX9_writeTiers_0 15 rfl) kw_X9_358 ?_
        refine s_topl (b := (nI 32).toInt64) (by decide) ?_
        refine s_callV0 (ci := 9) [.long ((nI 32).toInt64)] (zdk hX9_writeTiers_0 16 rfl) cw_X9_354 (hm.1) (by decide) rfl rfl rfl (Nat.le_of_ble_eq_true rfl) (by decide) (c_X9_saysI hl (M := (zsI M 941 6 (nI 0))) hm (g := g) (w := (rwt g w0 t)) (by omega) (nI 32)) ?_
        refine s_mem (M' := (zsL (zWx (zsI M 941 6 (nI 0)) (if 0 < t then rPut (rwt g w0 t) (nI 32) else (rwt g w0 t))) 942 g)) (by rw [hS]) ?_
        have hS1 : (if 0 < t then rPut (rwt g w0 t) (nI 32) else (rwt g w0 t)).1 ≤ (rwt g w0 t).1 + 1 := rPut_if _ _
        have hS2 := rsn_le g (6 + 13 * t + 5) 8 (if 0 < t then rPut (rwt g w0 t) (nI 32) else (rwt g w0 t)) 0
        refine s_aload_n (zdk hX9_writeTiers_0 17 rfl) rfl ?_
        refine s_bipushv (v := nI 6) (zdk hX9_writeTiers_0 18 rfl) zc_bipush_6 ?_
        refine s_bipushv (v := nI 13) (zdk hX9_writeTiers_0 19 rfl) zc_bipush_13 ?_
        refine s_iload_n (zdk hX9_writeTiers_0 20 rfl) rfl ?_
        refine s_imul (zdk hX9_writeTiers_0 21 rfl) ?_
        refine s_topi (b := nI (13 * t)) (pk_mul _ _) ?_
        refine s_iadd (zdk hX9_writeTiers_0 22 rfl) ?_
        refine s_topi (b := nI (6 + 13 * t)) (nI_add _ _) ?_
        refine s_iconstv (v := nI 5) (zdk hX9_writeTiers_0 23 rfl) zc_iconst_5 ?_
        refine s_iadd (zdk hX9_writeTiers_0 24 rfl) ?_
        refine s_topi (b := nI (6 + 13 * t + 5)) (nI_add _ _) ?_
        refine s_callV0 (ci := 9) [.int (nI (6 + 13 * t + 5))] (zdk hX9_writeTiers_0 25 rfl) cw_X9_360 (hm.1) (by decide) rfl rfl rfl (Nat.le_of_ble_eq_true rfl) (by decide) (c_X9_saysName hl (M := (zsI M 941 6 (nI 0))) hm (g := g) (b := 6 + 13 * t + 5) (by omega) (w := (if 0 < t then rPut (rwt g w0 t) (nI 32) else (rwt g w0 t))) (by omega)) ?_
        refine s_aload_n (zdk hX9_writeTiers_0 26 rfl) rfl ?_
        refine s_ldc2 (zdk hX9_writeTiers_0 27 rfl) kw_X9_363 ?_
        refine s_topl (b := (nI 58).toInt64) (by decide) ?_
        refine s_callV0 (ci := 9) [.long ((nI 58).toInt64)] (zdk hX9_writeTiers_0 28 rfl) cw_X9_354 (hm.1) (by decide) rfl rfl rfl (Nat.le_of_ble_eq_true rfl) (by decide) (c_X9_saysI hl (M := (zsI M 941 6 (nI 0))) hm (g := g) (w := (rsn g (6 + 13 * t + 5) 8 (if 0 < t then rPut (rwt g w0 t) (nI 32) else (rwt g w0 t)) 0)) (by omega) (nI 58)) ?_
        refine s_iconstv (v := nI 0) (zdk hX9_writeTiers_0 29 rfl) zc_iconst_0 ?_
        refine s_istore_n (zdk hX9_writeTiers_0 30 rfl) (Nat.le_of_ble_eq_true rfl) ?_
        refine s_ls (ls' := [some (.ref 941), some (.int (nI t)), some (.int (nI 0)), x3]) rfl ?_
        refine s_iconstv (v := nI 0) (zdk hX9_writeTiers_0 31 rfl) zc_iconst_0 ?_
        refine s_istore_n (zdk hX9_writeTiers_0 32 rfl) (Nat.le_of_ble_eq_true rfl) ?_
        refine s_ls (ls' := [some (.ref 941), some (.int (nI t)), some (.int (nI 0)), some (.int (nI 0))]) rfl ?_
        refine w_X9_writeTiers_55 hl (M := (zsI M 941 6 (nI 0))) hm hb n17 (w := rhd g t (rwt g w0 t)) (hwb t n17).2 ?_ (gN g 3 + 1) 0 (by omega) (by omega)
        refine s_iinc (r := nI (t + 1)) (zdk hX9_writeTiers_1 9 rfl) (Nat.le_of_ble_eq_true rfl) rfl (nI_1 _) ?_
        refine s_ls (ls' := [some (.ref 941), some (.int (nI (t + 1))), some (.int (nI ((rpf g t (rhd g t (rwt g w0 t)) (gN g 3)).1))), some (.int (nI (gN g 3)))]) rfl ?_
        refine s_goto 12 (zdk hX9_writeTiers_1 10 rfl) (by decide) ?_
        exact ih (t + 1) _ _ (by omega) (by omega)
theorem c_X9_writeTiers (hl : l.stackTraces = false) {M : zMem} (hm : mSh M) {g : Nat → Int64} (hb : gBd g) (hwb : rWb g (0, zI M 955)) : zCm l G mX9_writeTiers 2 52 0 0 [.ref 941] (zsL M 942 g) (zD (some (.int (nI ((rwt g (0, zI M 955) (gN g 2)).1)))) (zsL (zWx (zsI M 941 6 (nI 0)) (rwt g (0, zI M 955) (gN g 2))) 942 g)) := by
  refine zCd.of (ls0 := [some (.ref 941), none, none, none]) (by decide +kernel) rfl hl rfl (Nat.le_of_ble_eq_true rfl) rfl ?_
  refine s_aload_n (zdk hX9_writeTiers_0 0 rfl) rfl ?_
  refine s_iconstv (v := nI 0) (zdk hX9_writeTiers_0 1 rfl) zc_iconst_0 ?_
  refine s_putI (zdk hX9_writeTiers_0 2 rfl) fw_X9_69 rfl pw_9_6 (hm.1) ?_
  refine s_mem (M' := (zsL (zsI M 941 6 (nI 0)) 942 g)) rfl ?_
  refine s_aload_n (zdk hX9_writeTiers_0 3 rfl) rfl ?_
  refine s_iconstv (v := nI 0) (zdk hX9_writeTiers_0 4 rfl) zc_iconst_0 ?_
  refine s_putI (zdk hX9_writeTiers_0 5 rfl) fw_X9_351 rfl pw_9_31 (hm.1) ?_
  refine s_mem (M' := (zsL (zWx (zsI M 941 6 (nI 0)) (0, zI (zsI M 941 6 (nI 0)) 955)) 942 g)) (show zsL (zsI (zsI M 941 6 (nI 0)) 941 31 (nI 0)) 942 g = _ from congrArg (fun q => zsL q 942 g) zWx_0) ?_
  refine s_iconstv (v := nI 0) (zdk hX9_writeTiers_0 6 rfl) zc_iconst_0 ?_
  refine s_istore_n (zdk hX9_writeTiers_0 7 rfl) (Nat.le_of_ble_eq_true rfl) ?_
  refine s_ls (ls' := [some (.ref 941), some (.int (nI 0)), none, none]) rfl ?_
  exact w_X9_writeTiers_12 hl hm hb (w0 := (0, zI M 955)) hwb (gN g 2 + 1) 0 none none (by omega) (by omega)
theorem c_X9_writtenByte (hl : l.stackTraces = false) {M : zMem} (hm : mSh M) {g : Nat → Int64} {n : Nat} (hn : zI M 941 31 = nI n) (hn3 : n ≤ 300) (x : Int32) : zCm l G mX9_writtenByte 1 30 0 0 [.ref 941, .int (x)] (zsL M 942 g) (zD (some (.int (v1 (inN x n) (zI M 955 x.toNatClampNeg) (nI 0)))) (zsL (zsI M 941 6 (nI (t1 (inN x n) 1))) 942 g)) := by
  refine zCd.of (ls0 := [some (.ref 941), some (.int (x))]) (by decide +kernel) rfl hl rfl (Nat.le_of_ble_eq_true rfl) rfl ?_
  refine s_aload_n (zdk hX9_writtenByte 0 rfl) rfl ?_
  refine s_iload_n (zdk hX9_writtenByte 1 rfl) rfl ?_
  refine s_iconstv (v := nI 0) (zdk hX9_writtenByte 2 rfl) zc_iconst_0 ?_
  refine s_aload_n (zdk hX9_writtenByte 3 rfl) rfl ?_
  refine s_getI (zdk hX9_writtenByte 4 rfl) fw_X9_351 rfl (hm.1) ?_
  refine s_topi (b := nI n) (hn) ?_
  refine s_iconstv (v := nI 1) (zdk hX9_writtenByte 5 rfl) zc_iconst_1 ?_
  refine s_isub (zdk hX9_writtenByte 6 rfl) ?_
  refine s_callS0 [.int (x), .int (nI 0), .int ((nI n) - (nI 1))] (zdk hX9_writtenByte 7 rfl) cw_X9_79 rfl (Nat.le_of_ble_eq_true rfl) (by decide) (c_X9_isIn hl (zsL M 942 g) (x) (nI 0) ((nI n) - (nI 1))) ?_
  refine s_topi (b := if inN x n then nI 1 else nI 0) (b01 (inN_le (by omega))) ?_
  refine s_if_eq 19 (zdk hX9_writtenByte 8 rfl) (by decide) (fun c12 => ?_) (fun c12 => ?_)
  · have b12 : ¬ (inN x n) := b01_eq c12
    refine s_iconstv (v := nI 1) (zdk hX9_writtenByte 11 rfl) zc_iconst_1 ?_
    refine s_putI (zdk hX9_writtenByte 12 rfl) fw_X9_69 rfl pw_9_6 (hm.1) ?_
    refine s_mem (M' := (zsL (zsI M 941 6 (nI 1)) 942 g)) rfl ?_
    refine s_aload_n (zdk hX9_writtenByte 13 rfl) rfl ?_
    refine s_getI (zdk hX9_writtenByte 14 rfl) fw_X9_69 rfl (hm.1) ?_
    refine s_topi (b := nI 1) ((congrFun (zI_Ie (M := M) (a := 941) (k := 6) (v := (nI 1))) 6).trans zw1_e) ?_
    refine s_if_le 34 (zdk hX9_writtenByte 15 rfl) (by decide) (fun c27 => ?_) (fun c27 => ?_)
    · exact absurd c27 (by decide)
    · refine s_iconstv (v := nI 0) (zdk hX9_writtenByte 16 rfl) zc_iconst_0 ?_
      refine s_goto 40 (zdk hX9_writtenByte 17 rfl) (by decide) ?_
      refine s_ireturn (zdk hX9_writtenByte 22 rfl) rfl rfl ?_
      first | exact ⟨rfl, rfl⟩ | (rw [t1_1 b12, v1_1 b12]; exact ⟨rfl, rfl⟩)
  · have b12 : inN x n := b01_ne c12
    refine s_iconstv (v := nI 0) (zdk hX9_writtenByte 9 rfl) zc_iconst_0 ?_
    refine s_goto 20 (zdk hX9_writtenByte 10 rfl) (by decide) ?_
    refine s_putI (zdk hX9_writtenByte 12 rfl) fw_X9_69 rfl pw_9_6 (hm.1) ?_
    refine s_mem (M' := (zsL (zsI M 941 6 (nI 0)) 942 g)) rfl ?_
    refine s_aload_n (zdk hX9_writtenByte 13 rfl) rfl ?_
    refine s_getI (zdk hX9_writtenByte 14 rfl) fw_X9_69 rfl (hm.1) ?_
    refine s_topi (b := nI 0) ((congrFun (zI_Ie (M := M) (a := 941) (k := 6) (v := (nI 0))) 6).trans zw1_e) ?_
    refine s_if_le 34 (zdk hX9_writtenByte 15 rfl) (by decide) (fun c27 => ?_) (fun c27 => ?_)
    · obtain ⟨xn, rfl, hxn⟩ := inN_nat b12 (by omega)
      rw [t1_0 b12, v1_0 b12]
      rw [nI_clamp (show xn < 2 ^ 31 by omega)]
      refine s_aload_n (zdk hX9_writtenByte 18 rfl) rfl ?_
      refine s_getR (zdk hX9_writtenByte 19 rfl) fw_X9_55 rfl (hm.1) (show _ = some 955 from (hm.r (i := 13) rfl).1) ?_
      refine s_iload_n (zdk hX9_writtenByte 20 rfl) rfl ?_
      refine s_ialoadN (N := 300) (j := xn) (zdk hX9_writtenByte 21 rfl) ((hm.r (i := 13) rfl).2.1) ((hm.r (i := 13) rfl).2.2) (by omega) (by decide) ?_
      refine s_topi (b := zI M 955 xn) (congrFun (zI_In (M := M) (a := 941) (b := 955) (k := 6) (v := nI 0) (by decide)) xn) ?_
      refine s_ireturn (zdk hX9_writtenByte 22 rfl) rfl rfl ?_
      first | exact ⟨rfl, rfl⟩ | (rw [t1_1 b12, v1_1 b12]; exact ⟨rfl, rfl⟩)
    · exact absurd (by decide) c27
end

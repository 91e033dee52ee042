/-! ===== the reference: cost, wish, append ===== -/
def rzb (a b c d e : Int32) (k : Nat) : Int32 := zby (if k < 4 then a else if k < 8 then b else if k < 12 then c else if k < 16 then d else e) (3 - k % 4)
def rNb (a b c d e : Int32) : Nat → Nat
  | 0 => 0
  | k + 1 => if rzb a b c d e k = 0 then rNb a b c d e k else rNb a b c d e k + 1
def rAp (a b c d e : Int32) (w : zWr) : Nat → zWr
  | 0 => w
  | k + 1 => if rzb a b c d e k = 0 then rAp a b c d e w k else ((rAp a b c d e w k).1 + 1, zw1 (rAp a b c d e w k).2 (rAp a b c d e w k).1 (rzb a b c d e k))
theorem rNb_le (a b c d e : Int32) : ∀ k, rNb a b c d e k ≤ k
  | 0 => Nat.le_refl 0
  | k + 1 => by
    have := rNb_le a b c d e k
    unfold rNb
    split <;> omega
theorem rNb_mo (a b c d e : Int32) {k m : Nat} (h : k ≤ m) : rNb a b c d e k ≤ rNb a b c d e m := by
  induction m with
  | zero => have : k = 0 := by omega
            rw [this]; exact Nat.le_refl _
  | succ m ih =>
    by_cases q : k = m + 1
    · rw [q]; exact Nat.le_refl _
    · have h1 := ih (by omega)
      show _ ≤ (if rzb a b c d e m = 0 then rNb a b c d e m else rNb a b c d e m + 1)
      split <;> omega
theorem rAp_n (a b c d e : Int32) (w : zWr) : ∀ k, (rAp a b c d e w k).1 = w.1 + rNb a b c d e k
  | 0 => rfl
  | k + 1 => by
    have := rAp_n a b c d e w k
    unfold rAp rNb
    split
    · exact this
    · show _ + 1 = _; omega
/-- the reference's buffer -/
def zWb (M : zMem) (w : zWr) : zMem := zsA (zsI M 941 8 (nI w.1)) 947 w.2
theorem zWb_8 {M : zMem} {w : zWr} {g : Nat → Int64} : zI (zsL (zWb M w) 942 g) 941 8 = nI w.1 := by
  unfold zWb
  rw [zI_L, zI_An _ _ (by decide), zI_Ie, zw1_e]
theorem zWb_8b {M : zMem} {w : zWr} {g : Nat → Int64} {k : Nat} {v : Int32} : zI (zsL (zsI (zWb M w) 947 k v) 942 g) 941 8 = nI w.1 := by
  unfold zWb
  rw [zI_L, zI_In (by decide), zI_An _ _ (by decide), zI_Ie, zw1_e]
theorem zWb_put {M : zMem} {w : zWr} {v : Int32} : zsI (zsI (zWb M w) 947 w.1 v) 941 8 (nI (w.1 + 1)) = zWb M (w.1 + 1, zw1 w.2 w.1 v) := by
  unfold zWb
  rw [zsA_1]
  unfold zsA zsI
  congr 1
  funext d k
  unfold zu zur
  by_cases q : d = 941
  · subst q
    simp
    by_cases q2 : k = 8
    · simp [q2]
    · simp [q2]
  · by_cases q2 : d = 947
    · subst q2; simp
    · simp [q, q2]
theorem zWb_id {M : zMem} {n : Nat} (h : zI M 941 8 = nI n) : zWb M (n, zI M 947) = M := by
  unfold zWb
  show zsA (zsI M 941 8 (nI n)) 947 (zI M 947) = M
  rw [zsI_id h, zsA_id]
theorem rzb_0 {a b c d e : Int32} {k : Nat} (h : k < 20) (v : Int32) (hv : v = (if k < 4 then a else if k < 8 then b else if k < 12 then c else if k < 16 then d else e)) : (v >>> (nI (24 - 8 * (k % 4)) &&& 31)) &&& nI 255 = rzb a b c d e k := by
  unfold rzb zby
  rw [hv, show 24 - 8 * (k % 4) = 8 * (3 - k % 4) by omega]
section
variable {l : Launch} {G : zG}
theorem c_X9_cost_x (hl : l.stackTraces = false) {M : zMem} (hm : mSh M) {g : Nat → Int64} (hb : gBd g) (f t n : Int32) (hx : ¬ ((inN f (gN g 3) ∧ inN t (gN g 2)) ∧ (nI 1 ≤ n ∧ n ≤ nI 24))) : zCm l G mX9_cost 3 70 0 0 [.ref 941, .int (f), .int (t), .int (n)] (zsL M 942 g) (zD (some (.long (lN 0))) (zsL (zsI M 941 6 (nI (t2 (inN f (gN g 3) ∧ inN t (gN g 2)) (nI 1 ≤ n ∧ n ≤ nI 24) 1 2))) 942 g)) := by
  refine zCd.of (ls0 := [some (.ref 941), some (.int (f)), some (.int (t)), some (.int (n))]) (by decide +kernel) rfl hl rfl (Nat.le_of_ble_eq_true rfl) rfl ?_
  have hn2 := hb.2.2.1.2
  have ht4 := hb.2.1.2
  have hcy := hb.1.2.2
  have hpe := hb.2.2.2.1.2
  refine s_aload_n (zdk hX9_cost 0 rfl) rfl ?_
  refine s_aload_n (zdk hX9_cost 1 rfl) rfl ?_
  refine s_iload_n (zdk hX9_cost 2 rfl) rfl ?_
  refine s_callV0 (ci := 9) [.int (f)] (zdk hX9_cost 3 rfl) cw_X9_254 (hm.1) (by decide) rfl rfl rfl (Nat.le_of_ble_eq_true rfl) (by decide) (c_X9_isFile hl (M := M) (g := g) hm hb (f)) ?_
  refine s_if_eq 17 (zdk hX9_cost 4 rfl) (by decide) (fun c6 => ?_) (fun c6 => ?_)
  · have b6 : ¬ (inN (f) (gN g 3)) := b01_eq c6
    have hA : ¬ (inN f (gN g 3) ∧ inN t (gN g 2)) := fun q => b6 q.1
    refine s_iconstv (v := nI 1) (zdk hX9_cost 9 rfl) zc_iconst_1 ?_
    refine s_goto 33 (zdk hX9_cost 10 rfl) (by decide) ?_
    refine s_putI (zdk hX9_cost 17 rfl) fw_X9_69 rfl pw_9_6 (hm.1) ?_
    refine s_mem (M' := (zsL (zsI M 941 6 (nI 1)) 942 g)) rfl ?_
    refine s_aload_n (zdk hX9_cost 18 rfl) rfl ?_
    refine s_getI (zdk hX9_cost 19 rfl) fw_X9_69 rfl (hm.1) ?_
    refine s_topi (b := nI 1) ((congrFun (zI_Ie (M := M) (a := 941) (k := 6) (v := (nI 1))) 6).trans zw1_e) ?_
    refine s_if_le 47 (zdk hX9_cost 20 rfl) (by decide) (fun c40 => ?_) (fun c40 => ?_)
    · exact absurd c40 (by decide)
    · refine s_lconstv (v := lN 0) (zdk hX9_cost 21 rfl) rfl ?_
      refine s_goto 54 (zdk hX9_cost 22 rfl) (by decide) ?_
      refine s_lreturn (zdk hX9_cost 28 rfl) rfl  ?_
      first | (rw [t2_2 hA b25]; exact ⟨rfl, rfl⟩) | (rw [t2_1 hA]; exact ⟨rfl, rfl⟩)
  · have b6 : inN (f) (gN g 3) := b01_ne c6
    refine s_aload_n (zdk hX9_cost 5 rfl) rfl ?_
    refine s_iload_n (zdk hX9_cost 6 rfl) rfl ?_
    refine s_callV0 (ci := 9) [.int (t)] (zdk hX9_cost 7 rfl) cw_X9_245 (hm.1) (by decide) rfl rfl rfl (Nat.le_of_ble_eq_true rfl) (by decide) (c_X9_isTier hl (M := M) (g := g) hm hb (t)) ?_
    refine s_if_ne 21 (zdk hX9_cost 8 rfl) (by decide) (fun c14 => ?_) (fun c14 => ?_)
    · have b14 : inN (t) (gN g 2) := b01_ne c14
      have hA : inN f (gN g 3) ∧ inN t (gN g 2) := ⟨b6, b14⟩
      refine s_iload_n (zdk hX9_cost 11 rfl) rfl ?_
      refine s_callS0 [.int (n)] (zdk hX9_cost 12 rfl) cw_X9_320 rfl (Nat.le_of_ble_eq_true rfl) (by decide) (c_X9_isSpan hl (zsL M 942 g) (n)) ?_
      refine s_if_eq 32 (zdk hX9_cost 13 rfl) (by decide) (fun c25 => ?_) (fun c25 => ?_)
      · have b25 : ¬ (nI 1 ≤ n ∧ n ≤ nI 24) := b01_eq c25
        refine s_iconstv (v := nI 2) (zdk hX9_cost 16 rfl) zc_iconst_2 ?_
        refine s_putI (zdk hX9_cost 17 rfl) fw_X9_69 rfl pw_9_6 (hm.1) ?_
        refine s_mem (M' := (zsL (zsI M 941 6 (nI 2)) 942 g)) rfl ?_
        refine s_aload_n (zdk hX9_cost 18 rfl) rfl ?_
        refine s_getI (zdk hX9_cost 19 rfl) fw_X9_69 rfl (hm.1) ?_
        refine s_topi (b := nI 2) ((congrFun (zI_Ie (M := M) (a := 941) (k := 6) (v := (nI 2))) 6).trans zw1_e) ?_
        refine s_if_le 47 (zdk hX9_cost 20 rfl) (by decide) (fun c40 => ?_) (fun c40 => ?_)
        · exact absurd c40 (by decide)
        · refine s_lconstv (v := lN 0) (zdk hX9_cost 21 rfl) rfl ?_
          refine s_goto 54 (zdk hX9_cost 22 rfl) (by decide) ?_
          refine s_lreturn (zdk hX9_cost 28 rfl) rfl  ?_
          first | (rw [t2_2 hA b25]; exact ⟨rfl, rfl⟩) | (rw [t2_1 hA]; exact ⟨rfl, rfl⟩)
      · have b25 : nI 1 ≤ n ∧ n ≤ nI 24 := b01_ne c25
        refine s_iconstv (v := nI 0) (zdk hX9_cost 14 rfl) zc_iconst_0 ?_
        refine s_goto 33 (zdk hX9_cost 15 rfl) (by decide) ?_
        refine s_putI (zdk hX9_cost 17 rfl) fw_X9_69 rfl pw_9_6 (hm.1) ?_
        refine s_mem (M' := (zsL (zsI M 941 6 (nI 0)) 942 g)) rfl ?_
        refine s_aload_n (zdk hX9_cost 18 rfl) rfl ?_
        refine s_getI (zdk hX9_cost 19 rfl) fw_X9_69 rfl (hm.1) ?_
        refine s_topi (b := nI 0) ((congrFun (zI_Ie (M := M) (a := 941) (k := 6) (v := (nI 0))) 6).trans zw1_e) ?_
        refine s_if_le 47 (zdk hX9_cost 20 rfl) (by decide) (fun c40 => ?_) (fun c40 => ?_)
        · exact absurd ⟨hA, b25⟩ hx
        · exact absurd (by decide) c40
    · have b14 : ¬ (inN (t) (gN g 2)) := b01_eq c14
      have hA : ¬ (inN f (gN g 3) ∧ inN t (gN g 2)) := fun q => b14 q.2
      refine s_iconstv (v := nI 1) (zdk hX9_cost 9 rfl) zc_iconst_1 ?_
      refine s_goto 33 (zdk hX9_cost 10 rfl) (by decide) ?_
      refine s_putI (zdk hX9_cost 17 rfl) fw_X9_69 rfl pw_9_6 (hm.1) ?_
      refine s_mem (M' := (zsL (zsI M 941 6 (nI 1)) 942 g)) rfl ?_
      refine s_aload_n (zdk hX9_cost 18 rfl) rfl ?_
      refine s_getI (zdk hX9_cost 19 rfl) fw_X9_69 rfl (hm.1) ?_
      refine s_topi (b := nI 1) ((congrFun (zI_Ie (M := M) (a := 941) (k := 6) (v := (nI 1))) 6).trans zw1_e) ?_
      refine s_if_le 47 (zdk hX9_cost 20 rfl) (by decide) (fun c40 => ?_) (fun c40 => ?_)
      · exact absurd c40 (by decide)
      · refine s_lconstv (v := lN 0) (zdk hX9_cost 21 rfl) rfl ?_
        refine s_goto 54 (zdk hX9_cost 22 rfl) (by decide) ?_
        refine s_lreturn (zdk hX9_cost 28 rfl) rfl  ?_
        first | (rw [t2_2 hA b25]; exact ⟨rfl, rfl⟩) | (rw [t2_1 hA]; exact ⟨rfl, rfl⟩)
theorem c_X9_cost (hl : l.stackTraces = false) {M : zMem} (hm : mSh M) {g : Nat → Int64} (hb : gBd g) {f t n : Nat} (hf : f < gN g 3) (ht : t < gN g 2) (hn1 : 1 ≤ n) (hn24 : n ≤ 24) : zCm l G mX9_cost 5 130 0 0 [.ref 941, .int (nI f), .int (nI t), .int (nI n)] (zsL M 942 g) (zD (some (.long (rCo g f t n))) (zsL (zsI M 941 6 (nI 0)) 942 g)) := by
  refine zCd.of (ls0 := [some (.ref 941), some (.int (nI f)), some (.int (nI t)), some (.int (nI n))]) (by decide +kernel) rfl hl rfl (Nat.le_of_ble_eq_true rfl) rfl ?_
  have hn2 := hb.2.2.1.2
  have ht4 := hb.2.1.2
  have hcy := hb.1.2.2
  have hpe := hb.2.2.2.1.2
  refine s_aload_n (zdk hX9_cost 0 rfl) rfl ?_
  refine s_aload_n (zdk hX9_cost 1 rfl) rfl ?_
  refine s_iload_n (zdk hX9_cost 2 rfl) rfl ?_
  refine s_callV0 (ci := 9) [.int (nI f)] (zdk hX9_cost 3 rfl) cw_X9_254 (hm.1) (by decide) rfl rfl rfl (Nat.le_of_ble_eq_true rfl) (by decide) (c_X9_isFile hl (M := M) (g := g) hm hb (nI f)) ?_
  refine s_if_eq 17 (zdk hX9_cost 4 rfl) (by decide) (fun c6 => ?_) (fun c6 => ?_)
  · have b6 : ¬ (inN (nI f) (gN g 3)) := b01_eq c6
    exact absurd (inN_of hf (by omega)) b6
  · have b6 : inN (nI f) (gN g 3) := b01_ne c6
    refine s_aload_n (zdk hX9_cost 5 rfl) rfl ?_
    refine s_iload_n (zdk hX9_cost 6 rfl) rfl ?_
    refine s_callV0 (ci := 9) [.int (nI t)] (zdk hX9_cost 7 rfl) cw_X9_245 (hm.1) (by decide) rfl rfl rfl (Nat.le_of_ble_eq_true rfl) (by decide) (c_X9_isTier hl (M := M) (g := g) hm hb (nI t)) ?_
    refine s_if_ne 21 (zdk hX9_cost 8 rfl) (by decide) (fun c14 => ?_) (fun c14 => ?_)
    · have b14 : inN (nI t) (gN g 2) := b01_ne c14
      refine s_iload_n (zdk hX9_cost 11 rfl) rfl ?_
      refine s_callS0 [.int (nI n)] (zdk hX9_cost 12 rfl) cw_X9_320 rfl (Nat.le_of_ble_eq_true rfl) (by decide) (c_X9_isSpan hl (zsL M 942 g) (nI n)) ?_
      refine s_if_eq 32 (zdk hX9_cost 13 rfl) (by decide) (fun c25 => ?_) (fun c25 => ?_)
      · have b25 : ¬ (nI 1 ≤ nI n ∧ nI n ≤ nI 24) := b01_eq c25
        exact absurd ⟨nI_le hn1 (by omega), nI_le hn24 (by omega)⟩ b25
      · have b25 : nI 1 ≤ nI n ∧ nI n ≤ nI 24 := b01_ne c25
        refine s_iconstv (v := nI 0) (zdk hX9_cost 14 rfl) zc_iconst_0 ?_
        refine s_goto 33 (zdk hX9_cost 15 rfl) (by decide) ?_
        refine s_putI (zdk hX9_cost 17 rfl) fw_X9_69 rfl pw_9_6 (hm.1) ?_
        refine s_mem (M' := (zsL (zsI M 941 6 (nI 0)) 942 g)) rfl ?_
        refine s_aload_n (zdk hX9_cost 18 rfl) rfl ?_
        refine s_getI (zdk hX9_cost 19 rfl) fw_X9_69 rfl (hm.1) ?_
        refine s_topi (b := nI 0) ((congrFun (zI_Ie (M := M) (a := 941) (k := 6) (v := (nI 0))) 6).trans zw1_e) ?_
        refine s_if_le 47 (zdk hX9_cost 20 rfl) (by decide) (fun c40 => ?_) (fun c40 => ?_)
        · refine s_aload_n (zdk hX9_cost 23 rfl) rfl ?_
          refine s_iload_n (zdk hX9_cost 24 rfl) rfl ?_
          refine s_iload_n (zdk hX9_cost 25 rfl) rfl ?_
          refine s_iload_n (zdk hX9_cost 26 rfl) rfl ?_
          refine s_callV0 (ci := 9) [.int (nI f), .int (nI t), .int (nI n)] (zdk hX9_cost 27 rfl) cw_X9_270 (hm.1) (by decide) rfl rfl rfl (Nat.le_of_ble_eq_true rfl) (by decide) (c_X9_costOn hl (M := (zsI M 941 6 (nI 0))) (g := g) hm hb (f := f) (t := t) (n := n) (by omega) (by omega) (by omega)) ?_
          refine s_lreturn (zdk hX9_cost 28 rfl) rfl  ?_
          exact ⟨rfl, rfl⟩
        · exact absurd (by decide) c40
    · have b14 : ¬ (inN (nI t) (gN g 2)) := b01_eq c14
      exact absurd (inN_of ht (by omega)) b14
theorem c_X9_byteOf (hl : l.stackTraces = false) (M : zMem) {k : Nat} (hk : k < 20) (a b c d e : Int32) : zCm l G mX9_byteOf 0 0 0 0 [.int (nI k), .int a, .int b, .int c, .int d, .int e] M (zD (some (.int (rzb a b c d e k))) M) := by
  refine zCd.of (ls0 := [some (.int (nI k)), some (.int (a)), some (.int (b)), some (.int (c)), some (.int (d)), some (.int (e)), none]) (by decide +kernel) rfl hl rfl (Nat.le_of_ble_eq_true rfl) rfl ?_
  refine s_iload_n (zdk hX9_byteOf 0 rfl) rfl ?_
  refine s_iconstv (v := nI 4) (zdk hX9_byteOf 1 rfl) zc_iconst_4 ?_
  refine s_icmp_ge 9 (zdk hX9_byteOf 2 rfl) (by decide) (fun c2 => ?_) (fun c2 => ?_)
  · have n2 : 4 ≤ k := nle c2 (by omega) (by omega)
    refine s_iload_n (zdk hX9_byteOf 5 rfl) rfl ?_
    refine s_bipushv (v := nI 8) (zdk hX9_byteOf 6 rfl) zc_bipush_8 ?_
    refine s_icmp_ge 19 (zdk hX9_byteOf 7 rfl) (by decide) (fun c12 => ?_) (fun c12 => ?_)
    · have n12 : 8 ≤ k := nle c12 (by omega) (by omega)
      refine s_iload_n (zdk hX9_byteOf 10 rfl) rfl ?_
      refine s_bipushv (v := nI 12) (zdk hX9_byteOf 11 rfl) zc_bipush_12 ?_
      refine s_icmp_ge 29 (zdk hX9_byteOf 12 rfl) (by decide) (fun c22 => ?_) (fun c22 => ?_)
      · have n22 : 12 ≤ k := nle c22 (by omega) (by omega)
        refine s_iload_n (zdk hX9_byteOf 15 rfl) rfl ?_
        refine s_bipushv (v := nI 16) (zdk hX9_byteOf 16 rfl) zc_bipush_16 ?_
        refine s_icmp_ge 40 (zdk hX9_byteOf 17 rfl) (by decide) (fun c32 => ?_) (fun c32 => ?_)
        · have n32 : 16 ≤ k := nle c32 (by omega) (by omega)
          refine s_iload (zdk hX9_byteOf 20 rfl) rfl ?_
          refine s_istore (zdk hX9_byteOf 21 rfl) (Nat.le_of_ble_eq_true rfl) ?_
          refine s_ls (ls' := [some (.int (nI k)), some (.int (a)), some (.int (b)), some (.int (c)), some (.int (d)), some (.int (e)), some (.int (e))]) rfl ?_
          refine s_iload (zdk hX9_byteOf 22 rfl) rfl ?_
          refine s_bipushv (v := nI 24) (zdk hX9_byteOf 23 rfl) zc_bipush_24 ?_
          refine s_bipushv (v := nI 8) (zdk hX9_byteOf 24 rfl) zc_bipush_8 ?_
          refine s_iload_n (zdk hX9_byteOf 25 rfl) rfl ?_
          refine s_iconstv (v := nI 4) (zdk hX9_byteOf 26 rfl) zc_iconst_4 ?_
          refine s_irem (zdk hX9_byteOf 27 rfl) ((fun q => nI_ne0 (by omega) (by omega) q)) ?_
          refine s_topi (b := nI (k % 4)) (pk_rem (by omega) (by omega) (by omega)) ?_
          refine s_imul (zdk hX9_byteOf 28 rfl) ?_
          refine s_topi (b := nI (8 * (k % 4))) (pk_mul _ _) ?_
          refine s_isub (zdk hX9_byteOf 29 rfl) ?_
          refine s_topi (b := nI (24 - 8 * (k % 4))) (pk_sub (by omega)) ?_
          refine s_ishr (zdk hX9_byteOf 30 rfl) ?_
          refine s_sipushv (v := nI 255) (zdk hX9_byteOf 31 rfl) zc_sipush_255 ?_
          refine s_iand (zdk hX9_byteOf 32 rfl) ?_
          refine s_topi (b := rzb a b c d e k) (rzb_0 hk _ (by first | (rw [if_pos (by omega)]) | (rw [if_neg (by omega), if_pos (by omega)]) | (rw [if_neg (by omega), if_neg (by omega), if_pos (by omega)]) | (rw [if_neg (by omega), if_neg (by omega), if_neg (by omega), if_pos (by omega)]) | (rw [if_neg (by omega), if_neg (by omega), if_neg (by omega), if_neg (by omega)]))) ?_
          refine s_ireturn (zdk hX9_byteOf 33 rfl) rfl rfl ?_
          exact ⟨rfl, rfl⟩
        · have n32 : k < 16 := nlt c32 (by omega) (by omega)
          refine s_iload (zdk hX9_byteOf 18 rfl) rfl ?_
          refine s_goto 42 (zdk hX9_byteOf 19 rfl) (by decide) ?_
          refine s_istore (zdk hX9_byteOf 21 rfl) (Nat.le_of_ble_eq_true rfl) ?_
          refine s_ls (ls' := [some (.int (nI k)), some (.int (a)), some (.int (b)), some (.int (c)), some (.int (d)), some (.int (e)), some (.int (d))]) rfl ?_
          refine s_iload (zdk hX9_byteOf 22 rfl) rfl ?_
          refine s_bipushv (v := nI 24) (zdk hX9_byteOf 23 rfl) zc_bipush_24 ?_
          refine s_bipushv (v := nI 8) (zdk hX9_byteOf 24 rfl) zc_bipush_8 ?_
          refine s_iload_n (zdk hX9_byteOf 25 rfl) rfl ?_
          refine s_iconstv (v := nI 4) (zdk hX9_byteOf 26 rfl) zc_iconst_4 ?_
          refine s_irem (zdk hX9_byteOf 27 rfl) ((fun q => nI_ne0 (by omega) (by omega) q)) ?_
          refine s_topi (b := nI (k % 4)) (pk_rem (by omega) (by omega) (by omega)) ?_
          refine s_imul (zdk hX9_byteOf 28 rfl) ?_
          refine s_topi (b := nI (8 * (k % 4))) (pk_mul _ _) ?_
          refine s_isub (zdk hX9_byteOf 29 rfl) ?_
          refine s_topi (b := nI (24 - 8 * (k % 4))) (pk_sub (by omega)) ?_
          refine s_ishr (zdk hX9_byteOf 30 rfl) ?_
          refine s_sipushv (v := nI 255) (zdk hX9_byteOf 31 rfl) zc_sipush_255 ?_
          refine s_iand (zdk hX9_byteOf 32 rfl) ?_
          refine s_topi (b := rzb a b c d e k) (rzb_0 hk _ (by first | (rw [if_pos (by omega)]) | (rw [if_neg (by omega), if_pos (by omega)]) | (rw [if_neg (by omega), if_neg (by omega), if_pos (by omega)]) | (rw [if_neg (by omega), if_neg (by omega), if_neg (by omega), if_pos (by omega)]) | (rw [if_neg (by omega), if_neg (by omega), if_neg (by omega), if_neg (by omega)]))) ?_
          refine s_ireturn (zdk hX9_byteOf 33 rfl) rfl rfl ?_
          exact ⟨rfl, rfl⟩
      · have n22 : k < 12 := nlt c22 (by omega) (by omega)
        refine s_iload_n (zdk hX9_byteOf 13 rfl) rfl ?_
        refine s_goto 42 (zdk hX9_byteOf 14 rfl) (by decide) ?_
        refine s_istore (zdk hX9_byteOf 21 rfl) (Nat.le_of_ble_eq_true rfl) ?_
        refine s_ls (ls' := [some (.int (nI k)), some (.int (a)), some (.int (b)), some (.int (c)), some (.int (d)), some (.int (e)), some (.int (c))]) rfl ?_
        refine s_iload (zdk hX9_byteOf 22 rfl) rfl ?_
        refine s_bipushv (v := nI 24) (zdk hX9_byteOf 23 rfl) zc_bipush_24 ?_
        refine s_bipushv (v := nI 8) (zdk hX9_byteOf 24 rfl) zc_bipush_8 ?_
        refine s_iload_n (zdk hX9_byteOf 25 rfl) rfl ?_
        refine s_iconstv (v := nI 4) (zdk hX9_byteOf 26 rfl) zc_iconst_4 ?_
        refine s_irem (zdk hX9_byteOf 27 rfl) ((fun q => nI_ne0 (by omega) (by omega) q)) ?_
        refine s_topi (b := nI (k % 4)) (pk_rem (by omega) (by omega) (by omega)) ?_
        refine s_imul (zdk hX9_byteOf 28 rfl) ?_
        refine s_topi (b := nI (8 * (k % 4))) (pk_mul _ _) ?_
        refine s_isub (zdk hX9_byteOf 29 rfl) ?_
        refine s_topi (b := nI (24 - 8 * (k % 4))) (pk_sub (by omega)) ?_
        refine s_ishr (zdk hX9_byteOf 30 rfl) ?_
        refine s_sipushv (v := nI 255) (zdk hX9_byteOf 31 rfl) zc_sipush_255 ?_
        refine s_iand (zdk hX9_byteOf 32 rfl) ?_
        refine s_topi (b := rzb a b c d e k) (rzb_0 hk _ (by first | (rw [if_pos (by omega)]) | (rw [if_neg (by omega), if_pos (by omega)]) | (rw [if_neg (by omega), if_neg (by omega), if_pos (by omega)]) | (rw [if_neg (by omega), if_neg (by omega), if_neg (by omega), if_pos (by omega)]) | (rw [if_neg (by omega), if_neg (by omega), if_neg (by omega), if_neg (by omega)]))) ?_
        refine s_ireturn (zdk hX9_byteOf 33 rfl) rfl rfl ?_
        exact ⟨rfl, rfl⟩
    · have n12 : k < 8 := nlt c12 (by omega) (by omega)
      refine s_iload_n (zdk hX9_byteOf 8 rfl) rfl ?_
      refine s_goto 42 (zdk hX9_byteOf 9 rfl) (by decide) ?_
      refine s_istore (zdk hX9_byteOf 21 rfl) (Nat.le_of_ble_eq_true rfl) ?_
      refine s_ls (ls' := [some (.int (nI k)), some (.int (a)), some (.int (b)), some (.int (c)), some (.int (d)), some (.int (e)), some (.int (b))]) rfl ?_
      refine s_iload (zdk hX9_byteOf 22 rfl) rfl ?_
      refine s_bipushv (v := nI 24) (zdk hX9_byteOf 23 rfl) zc_bipush_24 ?_
      refine s_bipushv (v := nI 8) (zdk hX9_byteOf 24 rfl) zc_bipush_8 ?_
      refine s_iload_n (zdk hX9_byteOf 25 rfl) rfl ?_
      refine s_iconstv (v := nI 4) (zdk hX9_byteOf 26 rfl) zc_iconst_4 ?_
      refine s_irem (zdk hX9_byteOf 27 rfl) ((fun q => nI_ne0 (by omega) (by omega) q)) ?_
      refine s_topi (b := nI (k % 4)) (pk_rem (by omega) (by omega) (by omega)) ?_
      refine s_imul (zdk hX9_byteOf 28 rfl) ?_
      refine s_topi (b := nI (8 * (k % 4))) (pk_mul _ _) ?_
      refine s_isub (zdk hX9_byteOf 29 rfl) ?_
      refine s_topi (b := nI (24 - 8 * (k % 4))) (pk_sub (by omega)) ?_
      refine s_ishr (zdk hX9_byteOf 30 rfl) ?_
      refine s_sipushv (v := nI 255) (zdk hX9_byteOf 31 rfl) zc_sipush_255 ?_
      refine s_iand (zdk hX9_byteOf 32 rfl) ?_
      refine s_topi (b := rzb a b c d e k) (rzb_0 hk _ (by first | (rw [if_pos (by omega)]) | (rw [if_neg (by omega), if_pos (by omega)]) | (rw [if_neg (by omega), if_neg (by omega), if_pos (by omega)]) | (rw [if_neg (by omega), if_neg (by omega), if_neg (by omega), if_pos (by omega)]) | (rw [if_neg (by omega), if_neg (by omega), if_neg (by omega), if_neg (by omega)]))) ?_
      refine s_ireturn (zdk hX9_byteOf 33 rfl) rfl rfl ?_
      exact ⟨rfl, rfl⟩
  · have n2 : k < 4 := nlt c2 (by omega) (by omega)
    refine s_iload_n (zdk hX9_byteOf 3 rfl) rfl ?_
    refine s_goto 42 (zdk hX9_byteOf 4 rfl) (by decide) ?_
    refine s_istore (zdk hX9_byteOf 21 rfl) (Nat.le_of_ble_eq_true rfl) ?_
    refine s_ls (ls' := [some (.int (nI k)), some (.int (a)), some (.int (b)), some (.int (c)), some (.int (d)), some (.int (e)), some (.int (a))]) rfl ?_
    refine s_iload (zdk hX9_byteOf 22 rfl) rfl ?_
    refine s_bipushv (v := nI 24) (zdk hX9_byteOf 23 rfl) zc_bipush_24 ?_
    refine s_bipushv (v := nI 8) (zdk hX9_byteOf 24 rfl) zc_bipush_8 ?_
    refine s_iload_n (zdk hX9_byteOf 25 rfl) rfl ?_
    refine s_iconstv (v := nI 4) (zdk hX9_byteOf 26 rfl) zc_iconst_4 ?_
    refine s_irem (zdk hX9_byteOf 27 rfl) ((fun q => nI_ne0 (by omega) (by omega) q)) ?_
    refine s_topi (b := nI (k % 4)) (pk_rem (by omega) (by omega) (by omega)) ?_
    refine s_imul (zdk hX9_byteOf 28 rfl) ?_
    refine s_topi (b := nI (8 * (k % 4))) (pk_mul _ _) ?_
    refine s_isub (zdk hX9_byteOf 29 rfl) ?_
    refine s_topi (b := nI (24 - 8 * (k % 4))) (pk_sub (by omega)) ?_
    refine s_ishr (zdk hX9_byteOf 30 rfl) ?_
    refine s_sipushv (v := nI 255) (zdk hX9_byteOf 31 rfl) zc_sipush_255 ?_
    refine s_iand (zdk hX9_byteOf 32 rfl) ?_
    refine s_topi (b := rzb a b c d e k) (rzb_0 hk _ (by first | (rw [if_pos (by omega)]) | (rw [if_neg (by omega), if_pos (by omega)]) | (rw [if_neg (by omega), if_neg (by omega), if_pos (by omega)]) | (rw [if_neg (by omega), if_neg (by omega), if_neg (by omega), if_pos (by omega)]) | (rw [if_neg (by omega), if_neg (by omega), if_neg (by omega), if_neg (by omega)]))) ?_
    refine s_ireturn (zdk hX9_byteOf 33 rfl) rfl rfl ?_
    exact ⟨rfl, rfl⟩
theorem w_X9_append_6 (hl : l.stackTraces = false) {M : zMem} (hm : mSh M) {g : Nat → Int64} (a b c d e : Int32) {Q : zOut → zMem → Prop} (kk : zS l G mX9_append 1 40 0 0 44 [some (.ref 941), some (.int (a)), some (.int (b)), some (.int (c)), some (.int (d)), some (.int (e)), some (.int (nI (rNb a b c d e 20))), some (.int (nI 20)), none] [] (zsL M 942 g) Q) : ∀ (m : Nat) (k : Nat), k ≤ 20 → 20 - k < m → zS l G mX9_append 1 40 0 0 6 [some (.ref 941), some (.int (a)), some (.int (b)), some (.int (c)), some (.int (d)), some (.int (e)), some (.int (nI (rNb a b c d e k))), some (.int (nI k)), none] [] (zsL M 942 g) Q := by
  intro m
  induction m with
  | zero => intros; omega
  | succ m ih =>
    intro k hi hk
    have hrn := rNb_le a b c d e k
    refine s_iload (zdk hX9_append_0 4 rfl) rfl ?_
    refine s_bipushv (v := nI 20) (zdk hX9_append_0 5 rfl) zc_bipush_20 ?_
    refine s_icmp_ge 44 (zdk hX9_append_0 6 rfl) (by decide) (fun c10 => ?_) (fun c10 => ?_)
    · have n10 : 20 ≤ k := nle c10 (by omega) (by omega)
      obtain rfl : k = 20 := by omega
      exact kk
    · have n10 : k < 20 := nlt c10 (by omega) (by omega)
      refine s_iload (zdk hX9_append_0 7 rfl) rfl ?_
      refine s_iload (zdk hX9_append_0 8 rfl) rfl ?_
      refine s_iload_n (zdk hX9_append_0 9 rfl) rfl ?_
      refine s_iload_n (zdk hX9_append_0 10 rfl) rfl ?_
      refine s_iload_n (zdk hX9_append_0 11 rfl) rfl ?_
      refine s_iload (zdk hX9_append_0 12 rfl) rfl ?_
      refine s_iload (zdk hX9_append_0 13 rfl) rfl ?_
      refine s_callS0 [.int (nI k), .int (a), .int (b), .int (c), .int (d), .int (e)] (zdk hX9_append_0 14 rfl) cw_X9_91 rfl (Nat.le_of_ble_eq_true rfl) (by decide) (c_X9_byteOf hl (zsL M 942 g) (k := k) (by omega) a b c d e) ?_
      refine s_if_ne 34 (zdk hX9_append_0 15 rfl) (by decide) (fun c27 => ?_) (fun c27 => ?_)
      · have e1 : rNb a b c d e (k + 1) = rNb a b c d e k + 1 := if_neg c27
        refine s_iconstv (v := nI 1) (zdk hX9_append_0 18 rfl) zc_iconst_1 ?_
        refine s_iadd (zdk hX9_append_0 19 rfl) ?_
        refine s_topi (b := nI (rNb a b c d e k + 1)) (nI_add _ _) ?_
        refine s_istore (zdk hX9_append_0 20 rfl) (Nat.le_of_ble_eq_true rfl) ?_
        refine s_ls (ls' := [some (.ref 941), some (.int (a)), some (.int (b)), some (.int (c)), some (.int (d)), some (.int (e)), some (.int (nI (rNb a b c d e k + 1))), some (.int (nI k)), none]) rfl ?_
        refine s_ls (ls' := [some (.ref 941), some (.int (a)), some (.int (b)), some (.int (c)), some (.int (d)), some (.int (e)), some (.int (nI (rNb a b c d e (k + 1)))), some (.int (nI k)), none]) (by rw [e1]) ?_
        refine s_iinc (r := nI (k + 1)) (zdk hX9_append_0 21 rfl) (Nat.le_of_ble_eq_true rfl) rfl (nI_1 _) ?_
        refine s_ls (ls' := [some (.ref 941), some (.int (a)), some (.int (b)), some (.int (c)), some (.int (d)), some (.int (e)), some (.int (nI (rNb a b c d e (k + 1)))), some (.int (nI (k + 1))), none]) rfl ?_
        refine s_goto 6 (zdk hX9_append_0 22 rfl) (by decide) ?_
        exact ih (k + 1) (by omega) (by omega)
      · have e1 : rNb a b c d e (k + 1) = rNb a b c d e k + 0 := if_pos c27
        refine s_iconstv (v := nI 0) (zdk hX9_append_0 16 rfl) zc_iconst_0 ?_
        refine s_goto 35 (zdk hX9_append_0 17 rfl) (by decide) ?_
        refine s_iadd (zdk hX9_append_0 19 rfl) ?_
        refine s_topi (b := nI (rNb a b c d e k + 0)) (nI_add _ _) ?_
        refine s_istore (zdk hX9_append_0 20 rfl) (Nat.le_of_ble_eq_true rfl) ?_
        refine s_ls (ls' := [some (.ref 941), some (.int (a)), some (.int (b)), some (.int (c)), some (.int (d)), some (.int (e)), some (.int (nI (rNb a b c d e k + 0))), some (.int (nI k)), none]) rfl ?_
        refine s_ls (ls' := [some (.ref 941), some (.int (a)), some (.int (b)), some (.int (c)), some (.int (d)), some (.int (e)), some (.int (nI (rNb a b c d e (k + 1)))), some (.int (nI k)), none]) (by rw [e1]) ?_
        refine s_iinc (r := nI (k + 1)) (zdk hX9_append_0 21 rfl) (Nat.le_of_ble_eq_true rfl) rfl (nI_1 _) ?_
        refine s_ls (ls' := [some (.ref 941), some (.int (a)), some (.int (b)), some (.int (c)), some (.int (d)), some (.int (e)), some (.int (nI (rNb a b c d e (k + 1)))), some (.int (nI (k + 1))), none]) rfl ?_
        refine s_goto 6 (zdk hX9_append_0 22 rfl) (by decide) ?_
        exact ih (k + 1) (by omega) (by omega)
theorem w_X9_append_78 (hl : l.stackTraces = false) {M : zMem} (hm : mSh M) {g : Nat → Int64} (a b c d e : Int32) {w : zWr} (hw : w.1 + rNb a b c d e 20 ≤ 600) (x6 : Int32) : ∀ (m : Nat) (k : Nat) (x8 : Option Value), k ≤ 20 → 20 - k < m → zS l G mX9_append 1 40 0 0 78 [some (.ref 941), some (.int (a)), some (.int (b)), some (.int (c)), some (.int (d)), some (.int (e)), some (.int (x6)), some (.int (nI k)), x8] [] (zsL (zWb (zsI M 941 6 (nI 0)) (rAp a b c d e w k)) 942 g) (zD (some (.int (nI (rAp a b c d e w 20).1))) (zsL (zWb (zsI M 941 6 (nI 0)) (rAp a b c d e w 20)) 942 g)) := by
  intro m
  induction m with
  | zero => intros; omega
  | succ m ih =>
    intro k x8 hi hk
    have hap := rAp_n a b c d e w k
    have hmo : k ≤ 20 → rNb a b c d e k ≤ rNb a b c d e 20 := fun q => rNb_mo a b c d e q
    have hmo2 : k < 20 → ¬ rzb a b c d e k = 0 → rNb a b c d e k + 1 ≤ rNb a b c d e 20 := fun q q2 => by have := rNb_mo a b c d e (show k + 1 ≤ 20 from q); rw [show rNb a b c d e (k + 1) = rNb a b c d e k + 1 from if_neg q2] at this; exact this
    refine s_iload (zdk hX9_append_0 41 rfl) rfl ?_
    refine s_bipushv (v := nI 20) (zdk hX9_append_0 42 rfl) zc_bipush_20 ?_
    refine s_icmp_ge 134 (zdk hX9_append_0 43 rfl) (by decide) (fun c82 => ?_) (fun c82 => ?_)
    · have n82 : 20 ≤ k := nle c82 (by omega) (by omega)
      obtain rfl : k = 20 := by omega
      refine s_aload_n (zdk hX9_append_1 9 rfl) rfl ?_
      refine s_getI (zdk hX9_append_1 10 rfl) fw_X9_95 rfl (hm.1) ?_
      refine s_topi (b := nI (rAp a b c d e w 20).1) (zWb_8) ?_
      refine s_ireturn (zdk hX9_append_1 11 rfl) rfl rfl ?_
      exact ⟨rfl, rfl⟩
    · have n82 : k < 20 := nlt c82 (by omega) (by omega)
      refine s_iload (zdk hX9_append_0 44 rfl) rfl ?_
      refine s_iload_n (zdk hX9_append_0 45 rfl) rfl ?_
      refine s_iload_n (zdk hX9_append_0 46 rfl) rfl ?_
      refine s_iload_n (zdk hX9_append_0 47 rfl) rfl ?_
      refine s_iload (zdk hX9_append_0 48 rfl) rfl ?_
      refine s_iload (zdk hX9_append_0 49 rfl) rfl ?_
      refine s_callS0 [.int (nI k), .int (a), .int (b), .int (c), .int (d), .int (e)] (zdk hX9_append_0 50 rfl) cw_X9_91 rfl (Nat.le_of_ble_eq_true rfl) (by decide) (c_X9_byteOf hl (zsL (zWb (zsI M 941 6 (nI 0)) (rAp a b c d e w k)) 942 g) (k := k) (by omega) a b c d e) ?_
      refine s_istore (zdk hX9_append_0 51 rfl) (Nat.le_of_ble_eq_true rfl) ?_
      refine s_ls (ls' := [some (.ref 941), some (.int (a)), some (.int (b)), some (.int (c)), some (.int (d)), some (.int (e)), some (.int (x6)), some (.int (nI k)), some (.int (rzb a b c d e k))]) rfl ?_
      refine s_iload (zdk hX9_append_0 52 rfl) rfl ?_
      refine s_if_ne 107 (zdk hX9_append_0 53 rfl) (by decide) (fun c101 => ?_) (fun c101 => ?_)
      · have e1 : (rAp a b c d e w (k + 1)) = ((rAp a b c d e w k).1 + 1, zw1 (rAp a b c d e w k).2 (rAp a b c d e w k).1 (rzb a b c d e k)) := if_neg c101
        have hz9 := hmo2 n82 c101
        refine s_aload_n (zdk hX9_append_0 55 rfl) rfl ?_
        refine s_getR (zdk hX9_append_0 56 rfl) fw_X9_26 rfl (hm.1) (show _ = some 947 from (hm.r (i := 5) rfl).1) ?_
        refine s_aload_n (zdk hX9_append_0 57 rfl) rfl ?_
        refine s_getI (zdk hX9_append_0 58 rfl) fw_X9_95 rfl (hm.1) ?_
        refine s_topi (b := nI (rAp a b c d e w k).1) (zWb_8) ?_
        refine s_iload (zdk hX9_append_0 59 rfl) rfl ?_
        refine s_iastoreN (N := 600) (j := (rAp a b c d e w k).1) (zdk hX9_append_1 0 rfl) ((hm.r (i := 5) rfl).2.1) ((hm.r (i := 5) rfl).2.2) (by omega) (by decide) ?_
        refine s_mem (M' := (zsL (zsI (zWb (zsI M 941 6 (nI 0)) (rAp a b c d e w k)) 947 ((rAp a b c d e w k).1) (rzb a b c d e k)) 942 g)) rfl ?_
        refine s_aload_n (zdk hX9_append_1 1 rfl) rfl ?_
        refine s_dupr (zdk hX9_append_1 2 rfl) ?_
        refine s_getI (zdk hX9_append_1 3 rfl) fw_X9_95 rfl (hm.1) ?_
        refine s_topi (b := nI (rAp a b c d e w k).1) (zWb_8b) ?_
        refine s_iconstv (v := nI 1) (zdk hX9_append_1 4 rfl) zc_iconst_1 ?_
        refine s_iadd (zdk hX9_append_1 5 rfl) ?_
        refine s_topi (b := nI ((rAp a b c d e w k).1 + 1)) (nI_add _ _) ?_
        refine s_putI (zdk hX9_append_1 6 rfl) fw_X9_95 rfl pw_9_8 (hm.1) ?_
        refine s_mem (M' := (zsL (zWb (zsI M 941 6 (nI 0)) (rAp a b c d e w (k + 1))) 942 g)) ((show zsL (zsI (zsI (zWb (zsI M 941 6 (nI 0)) (rAp a b c d e w k)) 947 (rAp a b c d e w k).1 (rzb a b c d e k)) 941 8 (nI ((rAp a b c d e w k).1 + 1))) 942 g = _ from congrArg (fun q => zsL q 942 g) (zWb_put.trans (congrArg _ e1.symm)))) ?_
        refine s_iinc (r := nI (k + 1)) (zdk hX9_append_1 7 rfl) (Nat.le_of_ble_eq_true rfl) rfl (nI_1 _) ?_
        refine s_ls (ls' := [some (.ref 941), some (.int (a)), some (.int (b)), some (.int (c)), some (.int (d)), some (.int (e)), some (.int (x6)), some (.int (nI (k + 1))), some (.int (rzb a b c d e k))]) rfl ?_
        refine s_goto 78 (zdk hX9_append_1 8 rfl) (by decide) ?_
        exact ih (k + 1) _ (by omega) (by omega)
      · have e1 : (rAp a b c d e w (k + 1)) = (rAp a b c d e w k) := if_pos c101
        refine s_goto 128 (zdk hX9_append_0 54 rfl) (by decide) ?_
        refine s_mem (M' := (zsL (zWb (zsI M 941 6 (nI 0)) (rAp a b c d e w (k + 1))) 942 g)) (by rw [e1]) ?_
        refine s_iinc (r := nI (k + 1)) (zdk hX9_append_1 7 rfl) (Nat.le_of_ble_eq_true rfl) rfl (nI_1 _) ?_
        refine s_ls (ls' := [some (.ref 941), some (.int (a)), some (.int (b)), some (.int (c)), some (.int (d)), some (.int (e)), some (.int (x6)), some (.int (nI (k + 1))), some (.int (rzb a b c d e k))]) rfl ?_
        refine s_goto 78 (zdk hX9_append_1 8 rfl) (by decide) ?_
        exact ih (k + 1) _ (by omega) (by omega)
theorem c_X9_append_x (hl : l.stackTraces = false) {M : zMem} (hm : mSh M) {g : Nat → Int64} (a b c d e : Int32) {n : Nat} (hn : zI M 941 8 = nI n) (hn6 : n ≤ 600) (hr : 600 < n + rNb a b c d e 20) : zCm l G mX9_append 1 40 0 0 [.ref 941, .int (a), .int (b), .int (c), .int (d), .int (e)] (zsL M 942 g) (zD (some (.int (nI 0))) (zsL (zsI M 941 6 (nI (1))) 942 g)) := by
  refine zCd.of (ls0 := [some (.ref 941), some (.int (a)), some (.int (b)), some (.int (c)), some (.int (d)), some (.int (e)), none, none, none]) (by decide +kernel) rfl hl rfl (Nat.le_of_ble_eq_true rfl) rfl ?_
  have hrn := rNb_le a b c d e 20
  refine s_iconstv (v := nI 0) (zdk hX9_append_0 0 rfl) zc_iconst_0 ?_
  refine s_istore (zdk hX9_append_0 1 rfl) (Nat.le_of_ble_eq_true rfl) ?_
  refine s_ls (ls' := [some (.ref 941), some (.int (a)), some (.int (b)), some (.int (c)), some (.int (d)), some (.int (e)), some (.int (nI 0)), none, none]) rfl ?_
  refine s_iconstv (v := nI 0) (zdk hX9_append_0 2 rfl) zc_iconst_0 ?_
  refine s_istore (zdk hX9_append_0 3 rfl) (Nat.le_of_ble_eq_true rfl) ?_
  refine s_ls (ls' := [some (.ref 941), some (.int (a)), some (.int (b)), some (.int (c)), some (.int (d)), some (.int (e)), some (.int (nI 0)), some (.int (nI 0)), none]) rfl ?_
  refine w_X9_append_6 hl hm a b c d e ?_ 21 0 (by omega) (by omega)
  refine s_aload_n (zdk hX9_append_0 23 rfl) rfl ?_
  refine s_aload_n (zdk hX9_append_0 24 rfl) rfl ?_
  refine s_getI (zdk hX9_append_0 25 rfl) fw_X9_95 rfl (hm.1) ?_
  refine s_topi (b := nI n) (hn) ?_
  refine s_iload (zdk hX9_append_0 26 rfl) rfl ?_
  refine s_iadd (zdk hX9_append_0 27 rfl) ?_
  refine s_topi (b := nI (n + rNb a b c d e 20)) (nI_add _ _) ?_
  refine s_sipushv (v := nI 600) (zdk hX9_append_0 28 rfl) zc_sipush_600 ?_
  refine s_icmp_le 62 (zdk hX9_append_0 29 rfl) (by decide) (fun c55 => ?_) (fun c55 => ?_)
  · have n55 : n + rNb a b c d e 20 ≤ 600 := nle c55 (by omega) (by omega)
    exact absurd hr (by omega)
  · have n55 : 600 < n + rNb a b c d e 20 := nlt c55 (by omega) (by omega)
    refine s_iconstv (v := nI 1) (zdk hX9_append_0 30 rfl) zc_iconst_1 ?_
    refine s_goto 63 (zdk hX9_append_0 31 rfl) (by decide) ?_
    refine s_putI (zdk hX9_append_0 33 rfl) fw_X9_69 rfl pw_9_6 (hm.1) ?_
    refine s_mem (M' := (zsL (zsI M 941 6 (nI 1)) 942 g)) rfl ?_
    refine s_aload_n (zdk hX9_append_0 34 rfl) rfl ?_
    refine s_getI (zdk hX9_append_0 35 rfl) fw_X9_69 rfl (hm.1) ?_
    refine s_topi (b := nI 1) ((congrFun (zI_Ie (M := M) (a := 941) (k := 6) (v := (nI 1))) 6).trans zw1_e) ?_
    refine s_if_le 75 (zdk hX9_append_0 36 rfl) (by decide) (fun c70 => ?_) (fun c70 => ?_)
    · exact absurd c70 (by decide)
    · refine s_iconstv (v := nI 0) (zdk hX9_append_0 37 rfl) zc_iconst_0 ?_
      refine s_ireturn (zdk hX9_append_0 38 rfl) rfl rfl ?_
      exact ⟨rfl, rfl⟩
theorem c_X9_append (hl : l.stackTraces = false) {M : zMem} (hm : mSh M) {g : Nat → Int64} (a b c d e : Int32) {n : Nat} (hn : zI M 941 8 = nI n) (hn6 : n ≤ 600) (hr : n + rNb a b c d e 20 ≤ 600) : zCm l G mX9_append 1 40 0 0 [.ref 941, .int (a), .int (b), .int (c), .int (d), .int (e)] (zsL M 942 g) (zD (some (.int (nI (rAp a b c d e (n, zI M 947) 20).1))) (zsL (zWb (zsI M 941 6 (nI 0)) (rAp a b c d e (n, zI M 947) 20)) 942 g)) := by
  refine zCd.of (ls0 := [some (.ref 941), some (.int (a)), some (.int (b)), some (.int (c)), some (.int (d)), some (.int (e)), none, none, none]) (by decide +kernel) rfl hl rfl (Nat.le_of_ble_eq_true rfl) rfl ?_
  have hrn := rNb_le a b c d e 20
  refine s_iconstv (v := nI 0) (zdk hX9_append_0 0 rfl) zc_iconst_0 ?_
  refine s_istore (zdk hX9_append_0 1 rfl) (Nat.le_of_ble_eq_true rfl) ?_
  refine s_ls (ls' := [some (.ref 941), some (.int (a)), some (.int (b)), some (.int (c)), some (.int (d)), some (.int (e)), some (.int (nI 0)), none, none]) rfl ?_
  refine s_iconstv (v := nI 0) (zdk hX9_append_0 2 rfl) zc_iconst_0 ?_
  refine s_istore (zdk hX9_append_0 3 rfl) (Nat.le_of_ble_eq_true rfl) ?_
  refine s_ls (ls' := [some (.ref 941), some (.int (a)), some (.int (b)), some (.int (c)), some (.int (d)), some (.int (e)), some (.int (nI 0)), some (.int (nI 0)), none]) rfl ?_
  refine w_X9_append_6 hl hm a b c d e ?_ 21 0 (by omega) (by omega)
  refine s_aload_n (zdk hX9_append_0 23 rfl) rfl ?_
  refine s_aload_n (zdk hX9_append_0 24 rfl) rfl ?_
  refine s_getI (zdk hX9_append_0 25 rfl) fw_X9_95 rfl (hm.1) ?_
  refine s_topi (b := nI n) (hn) ?_
  refine s_iload (zdk hX9_append_0 26 rfl) rfl ?_
  refine s_iadd (zdk hX9_append_0 27 rfl) ?_
  refine s_topi (b := nI (n + rNb a b c d e 20)) (nI_add _ _) ?_
  refine s_sipushv (v := nI 600) (zdk hX9_append_0 28 rfl) zc_sipush_600 ?_
  refine s_icmp_le 62 (zdk hX9_append_0 29 rfl) (by decide) (fun c55 => ?_) (fun c55 => ?_)
  · have n55 : n + rNb a b c d e 20 ≤ 600 := nle c55 (by omega) (by omega)
    refine s_iconstv (v := nI 0) (zdk hX9_append_0 32 rfl) zc_iconst_0 ?_
    refine s_putI (zdk hX9_append_0 33 rfl) fw_X9_69 rfl pw_9_6 (hm.1) ?_
    refine s_mem (M' := (zsL (zsI M 941 6 (nI 0)) 942 g)) rfl ?_
    refine s_aload_n (zdk hX9_append_0 34 rfl) rfl ?_
    refine s_getI (zdk hX9_append_0 35 rfl) fw_X9_69 rfl (hm.1) ?_
    refine s_topi (b := nI 0) ((congrFun (zI_Ie (M := M) (a := 941) (k := 6) (v := (nI 0))) 6).trans zw1_e) ?_
    refine s_if_le 75 (zdk hX9_append_0 36 rfl) (by decide) (fun c70 => ?_) (fun c70 => ?_)
    · refine s_iconstv (v := nI 0) (zdk hX9_append_0 39 rfl) zc_iconst_0 ?_
      refine s_istore (zdk hX9_append_0 40 rfl) (Nat.le_of_ble_eq_true rfl) ?_
      refine s_ls (ls' := [some (.ref 941), some (.int (a)), some (.int (b)), some (.int (c)), some (.int (d)), some (.int (e)), some (.int (nI (rNb a b c d e 20))), some (.int (nI 0)), none]) rfl ?_
      have h := w_X9_append_78 (l := l) (G := G) hl hm (g := g) a b c d e (w := (n, zI M 947)) hr (nI (rNb a b c d e 20)) 21 0 none (by omega) (by omega)
      rw [show rAp a b c d e (n, zI M 947) 0 = (n, zI (zsI M 941 6 (nI 0)) 947) from rfl, zWb_id (M := (zsI M 941 6 (nI 0))) ((congrFun (zI_Ie (M := M) (a := 941) (k := 6) (v := nI 0)) 8).trans ((zw1_n (by decide)).trans hn))] at h
      exact h
    · exact absurd (by decide) c70
  · have n55 : 600 < n + rNb a b c d e 20 := nlt c55 (by omega) (by omega)
    exact absurd hr (by omega)
end

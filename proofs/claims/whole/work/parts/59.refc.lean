theorem zc_bipush_26 : (Int8.ofInt 26).toInt32 = nI 26 := by decide
/-! ===== the reference: more that it asks of files; its changes of one file ===== -/
def oShN (g : Nat → Int64) (b n : Nat) : Nat → Int64 := fun k => if b ≤ k ∧ k < b + n then (its g (k + 1)).toInt64 else g k
theorem oShN_1 {g : Nat → Int64} {b i E : Nat} (hE : b + i = E) : zwL (oShN g b i) E (its g (E + 1)).toInt64 = oShN g b (i + 1) := by
  subst hE
  funext k
  unfold zwL oShN
  by_cases q : k = b + i
  · rw [if_pos q, if_pos (by omega), q]
  · rw [if_neg q]
    by_cases q2 : b ≤ k ∧ k < b + i
    · rw [if_pos q2, if_pos (by omega)]
    · rw [if_neg q2, if_neg (by omega)]
theorem oShN_0 {g : Nat → Int64} {b : Nat} : oShN g b 0 = g := by funext k; unfold oShN; rw [if_neg (by omega)]
theorem oShN_u {g : Nat → Int64} {b n k : Nat} (h : k < b ∨ b + n ≤ k) : oShN g b n k = g k := if_neg (by omega)
def oFoN (g : Nat → Int64) (f n : Nat) : Nat → Int64 := fun k => if 58 + 51 * f + 14 ≤ k ∧ k < 58 + 51 * f + 14 + n then (-1 : Int32).toInt64 else g k
theorem oFoN_1 {g : Nat → Int64} {f i E : Nat} (hE : 58 + 51 * f + 14 + i = E) : zwL (oFoN g f i) E (-1 : Int32).toInt64 = oFoN g f (i + 1) := by
  subst hE
  funext k
  unfold zwL oFoN
  by_cases q : k = 58 + 51 * f + 14 + i
  · rw [if_pos q, if_pos (by omega)]
  · rw [if_neg q]
    by_cases q2 : 58 + 51 * f + 14 ≤ k ∧ k < 58 + 51 * f + 14 + i
    · rw [if_pos q2, if_pos (by omega)]
    · rw [if_neg q2, if_neg (by omega)]
theorem oFoN_0 {g : Nat → Int64} {f : Nat} : oFoN g f 0 = g := by funext k; unfold oFoN; rw [if_neg (by omega)]
theorem oFoN_12 {g : Nat → Int64} {f : Nat} : oFoN g f 12 = oForget g f := by
  funext k
  unfold oFoN oForget
  by_cases q : 58 + 51 * f + 14 ≤ k ∧ k < 58 + 51 * f + 14 + 12
  · rw [if_pos q]
  · rw [if_neg q]
section
variable {l : Launch} {G : zG}
theorem w_X9_seasonsOf1 (hl : l.stackTraces = false) {M : zMem} (hm : mSh M) {g : Nat → Int64} (hb : gBd g) {f : Nat} (hf : f < 20) : ∀ (k : Nat) (i : Nat) (x6 : Option Value), i ≤ gN g 0 → gN g 0 - i < k → zS l G mX9_seasonsOf 2 44 0 0 8 [some (.ref 941), some (.int (nI f)), some (.int (nI 1)), some (.int ((zso (gs g f) i).1)), some (.int ((zso (gs g f) i).2)), some (.int (nI i)), x6] [] (zsL M 942 g) (zD (some (.int (zsoR (gs g f) (gN g 0) true))) (zsL M 942 g)) := by
  intro k
  induction k with
  | zero => intros; omega
  | succ k ih =>
    intro i x6 hi hk
    have hn := hb.2.2.1.2
    have hc := hb.1.2.2
    have ht4 := hb.2.1.2
    refine s_iload (zdk hX9_seasonsOf_0 6 rfl) rfl ?_
    refine s_aload_n (zdk hX9_seasonsOf_0 7 rfl) rfl ?_
    refine s_iconstv (v := nI 0) (zdk hX9_seasonsOf_0 8 rfl) zc_iconst_0 ?_
    refine s_callV0 (ci := 9) [.int (nI 0)] (zdk hX9_seasonsOf_0 9 rfl) cw_X9_87 (hm.1) (by decide) rfl rfl rfl (Nat.le_of_ble_eq_true rfl) (by decide) (c_X9_itsN hl (M := M) (g := g) hm (k := 0) (by decide) (hb.h0)) ?_
    refine s_icmp_ge 87 (zdk hX9_seasonsOf_0 10 rfl) (by decide) (fun c15 => ?_) (fun c15 => ?_)
    · have n15 : gN g 0 ≤ i := nle c15 (by omega) (by omega)
      obtain rfl : i = gN g 0 := by omega
      have hz := zso_at (gs g f) (gN g 0)
      refine s_iload_n (zdk hX9_seasonsOf_0 46 rfl) rfl ?_
      refine s_if_eq 95 (zdk hX9_seasonsOf_0 47 rfl) (by decide) (fun c88 => ?_) (fun c88 => ?_)
      · exact absurd c88 (by decide)
      · refine s_iload_n (zdk hX9_seasonsOf_0 48 rfl) rfl ?_
        refine s_goto 116 (zdk hX9_seasonsOf_0 49 rfl) (by decide) ?_
        refine s_ireturn (zdk hX9_seasonsOf_1 3 rfl) rfl rfl ?_
        first | exact ⟨rfl, rfl⟩ | (unfold zsoR; rw [if_neg (by decide), if_pos c97]; exact ⟨rfl, rfl⟩) | (unfold zsoR; rw [if_neg (by decide), if_neg c97, ej, nI_clamp (by omega)]; exact ⟨rfl, rfl⟩)
    · have n15 : i < gN g 0 := nlt c15 (by omega) (by omega)
      refine s_aload_n (zdk hX9_seasonsOf_0 11 rfl) rfl ?_
      refine s_iload_n (zdk hX9_seasonsOf_0 12 rfl) rfl ?_
      refine s_bipushv (v := nI 14) (zdk hX9_seasonsOf_0 13 rfl) zc_bipush_14 ?_
      refine s_iload (zdk hX9_seasonsOf_0 14 rfl) rfl ?_
      refine s_iadd (zdk hX9_seasonsOf_0 15 rfl) ?_
      refine s_topi (b := nI (14 + i)) (nI_add _ _) ?_
      refine s_callV0 (ci := 9) [.int (nI f), .int (nI (14 + i))] (zdk hX9_seasonsOf_0 16 rfl) cw_X9_211 (hm.1) (by decide) rfl rfl rfl (Nat.le_of_ble_eq_true rfl) (by decide) (c_X9_ofS hl (M := M) (g := g) hm (f := f) (p := i) (by omega)) ?_
      refine s_istore (zdk hX9_seasonsOf_0 17 rfl) (Nat.le_of_ble_eq_true rfl) ?_
      refine s_ls (ls' := [some (.ref 941), some (.int (nI f)), some (.int (nI 1)), some (.int ((zso (gs g f) i).1)), some (.int ((zso (gs g f) i).2)), some (.int (nI i)), some (.int (gs g f i))]) rfl ?_
      refine s_iload (zdk hX9_seasonsOf_0 18 rfl) rfl ?_
      refine s_iconstv (v := (-1)) (zdk hX9_seasonsOf_0 19 rfl) zc_iconst_m1 ?_
      refine s_icmp_ne 39 (zdk hX9_seasonsOf_0 20 rfl) (by decide) (fun c33 => ?_) (fun c33 => ?_)
      · refine s_iload_n (zdk hX9_seasonsOf_0 22 rfl) rfl ?_
        refine s_iconstv (v := (-1)) (zdk hX9_seasonsOf_0 23 rfl) zc_iconst_m1 ?_
        refine s_icmp_eq 58 (zdk hX9_seasonsOf_0 24 rfl) (by decide) (fun c41 => ?_) (fun c41 => ?_)
        · have e3 : (zso (gs g f) (i + 1)).1 = nI i := (congrArg Prod.fst (if_neg c33)).trans (if_pos (Or.inl c41))
          refine s_iload (zdk hX9_seasonsOf_0 33 rfl) rfl ?_
          refine s_istore_n (zdk hX9_seasonsOf_0 34 rfl) (Nat.le_of_ble_eq_true rfl) ?_
          refine s_ls (ls' := [some (.ref 941), some (.int (nI f)), some (.int (nI 1)), some (.int (nI i)), some (.int ((zso (gs g f) i).2)), some (.int (nI i)), some (.int (gs g f i))]) rfl ?_
          refine s_iload (zdk hX9_seasonsOf_0 35 rfl) rfl ?_
          refine s_iconstv (v := (-1)) (zdk hX9_seasonsOf_0 36 rfl) zc_iconst_m1 ?_
          refine s_icmp_ne 72 (zdk hX9_seasonsOf_0 37 rfl) (by decide) (fun c64 => ?_) (fun c64 => ?_)
          · have e4 : (zso (gs g f) (i + 1)).2 = zmi ((zso (gs g f) i).2) (gs g f i) := (congrArg Prod.snd (if_neg c33)).trans (if_neg c64)
            refine s_iload (zdk hX9_seasonsOf_0 40 rfl) rfl ?_
            refine s_iload (zdk hX9_seasonsOf_0 41 rfl) rfl ?_
            refine s_callS0 [.int ((zso (gs g f) i).2), .int (gs g f i)] (zdk hX9_seasonsOf_0 42 rfl) cw_X9_121 rfl (Nat.le_of_ble_eq_true rfl) (by decide) (c_min hl (zsL M 942 g) ((zso (gs g f) i).2) (gs g f i)) ?_
            refine s_istore (zdk hX9_seasonsOf_0 43 rfl) (Nat.le_of_ble_eq_true rfl) ?_
            refine s_ls (ls' := [some (.ref 941), some (.int (nI f)), some (.int (nI 1)), some (.int (nI i)), some (.int (zmi ((zso (gs g f) i).2) (gs g f i))), some (.int (nI i)), some (.int (gs g f i))]) rfl ?_
            refine s_ls (ls' := [some (.ref 941), some (.int (nI f)), some (.int (nI 1)), some (.int ((zso (gs g f) (i + 1)).1)), some (.int ((zso (gs g f) (i + 1)).2)), some (.int (nI i)), some (.int (gs g f i))]) (by rw [e3, e4]) ?_
            refine s_iinc (r := nI (i + 1)) (zdk hX9_seasonsOf_0 44 rfl) (Nat.le_of_ble_eq_true rfl) rfl (nI_1 _) ?_
            refine s_ls (ls' := [some (.ref 941), some (.int (nI f)), some (.int (nI 1)), some (.int ((zso (gs g f) (i + 1)).1)), some (.int ((zso (gs g f) (i + 1)).2)), some (.int (nI (i + 1))), some (.int (gs g f i))]) rfl ?_
            refine s_goto 8 (zdk hX9_seasonsOf_0 45 rfl) (by decide) ?_
            exact ih (i + 1) _ (by omega) (by omega)
          · have e4 : (zso (gs g f) (i + 1)).2 = gs g f i := (congrArg Prod.snd (if_neg c33)).trans (if_pos c64)
            refine s_iload (zdk hX9_seasonsOf_0 38 rfl) rfl ?_
            refine s_goto 79 (zdk hX9_seasonsOf_0 39 rfl) (by decide) ?_
            refine s_istore (zdk hX9_seasonsOf_0 43 rfl) (Nat.le_of_ble_eq_true rfl) ?_
            refine s_ls (ls' := [some (.ref 941), some (.int (nI f)), some (.int (nI 1)), some (.int (nI i)), some (.int (gs g f i)), some (.int (nI i)), some (.int (gs g f i))]) rfl ?_
            refine s_ls (ls' := [some (.ref 941), some (.int (nI f)), some (.int (nI 1)), some (.int ((zso (gs g f) (i + 1)).1)), some (.int ((zso (gs g f) (i + 1)).2)), some (.int (nI i)), some (.int (gs g f i))]) (by rw [e3, e4]) ?_
            refine s_iinc (r := nI (i + 1)) (zdk hX9_seasonsOf_0 44 rfl) (Nat.le_of_ble_eq_true rfl) rfl (nI_1 _) ?_
            refine s_ls (ls' := [some (.ref 941), some (.int (nI f)), some (.int (nI 1)), some (.int ((zso (gs g f) (i + 1)).1)), some (.int ((zso (gs g f) (i + 1)).2)), some (.int (nI (i + 1))), some (.int (gs g f i))]) rfl ?_
            refine s_goto 8 (zdk hX9_seasonsOf_0 45 rfl) (by decide) ?_
            exact ih (i + 1) _ (by omega) (by omega)
        · obtain ⟨j, hj, ej⟩ := (zso_at (gs g f) i).resolve_left c41
          refine s_ls (ls' := [some (.ref 941), some (.int (nI f)), some (.int (nI 1)), some (.int (nI j)), some (.int ((zso (gs g f) i).2)), some (.int (nI i)), some (.int (gs g f i))]) (by rw [ej]) ?_
          refine s_iload (zdk hX9_seasonsOf_0 25 rfl) rfl ?_
          refine s_aload_n (zdk hX9_seasonsOf_0 26 rfl) rfl ?_
          refine s_iload_n (zdk hX9_seasonsOf_0 27 rfl) rfl ?_
          refine s_bipushv (v := nI 14) (zdk hX9_seasonsOf_0 28 rfl) zc_bipush_14 ?_
          refine s_iload_n (zdk hX9_seasonsOf_0 29 rfl) rfl ?_
          refine s_iadd (zdk hX9_seasonsOf_0 30 rfl) ?_
          refine s_topi (b := nI (14 + j)) (nI_add _ _) ?_
          refine s_callV0 (ci := 9) [.int (nI f), .int (nI (14 + j))] (zdk hX9_seasonsOf_0 31 rfl) cw_X9_211 (hm.1) (by decide) rfl rfl rfl (Nat.le_of_ble_eq_true rfl) (by decide) (c_X9_ofS hl (M := M) (g := g) hm (f := f) (p := j) (by omega)) ?_
          refine s_icmp_le 61 (zdk hX9_seasonsOf_0 32 rfl) (by decide) (fun c55 => ?_) (fun c55 => ?_)
          · have e3 : (zso (gs g f) (i + 1)).1 = nI j := (congrArg Prod.fst (if_neg c33)).trans ((if_neg (fun q => by rcases q with q | q; exact c41 q; exact q (by rw [ej, nI_clamp (by omega)]; exact c55))).trans ej)
            refine s_iload (zdk hX9_seasonsOf_0 35 rfl) rfl ?_
            refine s_iconstv (v := (-1)) (zdk hX9_seasonsOf_0 36 rfl) zc_iconst_m1 ?_
            refine s_icmp_ne 72 (zdk hX9_seasonsOf_0 37 rfl) (by decide) (fun c64 => ?_) (fun c64 => ?_)
            · have e4 : (zso (gs g f) (i + 1)).2 = zmi ((zso (gs g f) i).2) (gs g f i) := (congrArg Prod.snd (if_neg c33)).trans (if_neg c64)
              refine s_iload (zdk hX9_seasonsOf_0 40 rfl) rfl ?_
              refine s_iload (zdk hX9_seasonsOf_0 41 rfl) rfl ?_
              refine s_callS0 [.int ((zso (gs g f) i).2), .int (gs g f i)] (zdk hX9_seasonsOf_0 42 rfl) cw_X9_121 rfl (Nat.le_of_ble_eq_true rfl) (by decide) (c_min hl (zsL M 942 g) ((zso (gs g f) i).2) (gs g f i)) ?_
              refine s_istore (zdk hX9_seasonsOf_0 43 rfl) (Nat.le_of_ble_eq_true rfl) ?_
              refine s_ls (ls' := [some (.ref 941), some (.int (nI f)), some (.int (nI 1)), some (.int (nI j)), some (.int (zmi ((zso (gs g f) i).2) (gs g f i))), some (.int (nI i)), some (.int (gs g f i))]) rfl ?_
              refine s_ls (ls' := [some (.ref 941), some (.int (nI f)), some (.int (nI 1)), some (.int ((zso (gs g f) (i + 1)).1)), some (.int ((zso (gs g f) (i + 1)).2)), some (.int (nI i)), some (.int (gs g f i))]) (by rw [e3, e4]) ?_
              refine s_iinc (r := nI (i + 1)) (zdk hX9_seasonsOf_0 44 rfl) (Nat.le_of_ble_eq_true rfl) rfl (nI_1 _) ?_
              refine s_ls (ls' := [some (.ref 941), some (.int (nI f)), some (.int (nI 1)), some (.int ((zso (gs g f) (i + 1)).1)), some (.int ((zso (gs g f) (i + 1)).2)), some (.int (nI (i + 1))), some (.int (gs g f i))]) rfl ?_
              refine s_goto 8 (zdk hX9_seasonsOf_0 45 rfl) (by decide) ?_
              exact ih (i + 1) _ (by omega) (by omega)
            · have e4 : (zso (gs g f) (i + 1)).2 = gs g f i := (congrArg Prod.snd (if_neg c33)).trans (if_pos c64)
              refine s_iload (zdk hX9_seasonsOf_0 38 rfl) rfl ?_
              refine s_goto 79 (zdk hX9_seasonsOf_0 39 rfl) (by decide) ?_
              refine s_istore (zdk hX9_seasonsOf_0 43 rfl) (Nat.le_of_ble_eq_true rfl) ?_
              refine s_ls (ls' := [some (.ref 941), some (.int (nI f)), some (.int (nI 1)), some (.int (nI j)), some (.int (gs g f i)), some (.int (nI i)), some (.int (gs g f i))]) rfl ?_
              refine s_ls (ls' := [some (.ref 941), some (.int (nI f)), some (.int (nI 1)), some (.int ((zso (gs g f) (i + 1)).1)), some (.int ((zso (gs g f) (i + 1)).2)), some (.int (nI i)), some (.int (gs g f i))]) (by rw [e3, e4]) ?_
              refine s_iinc (r := nI (i + 1)) (zdk hX9_seasonsOf_0 44 rfl) (Nat.le_of_ble_eq_true rfl) rfl (nI_1 _) ?_
              refine s_ls (ls' := [some (.ref 941), some (.int (nI f)), some (.int (nI 1)), some (.int ((zso (gs g f) (i + 1)).1)), some (.int ((zso (gs g f) (i + 1)).2)), some (.int (nI (i + 1))), some (.int (gs g f i))]) rfl ?_
              refine s_goto 8 (zdk hX9_seasonsOf_0 45 rfl) (by decide) ?_
              exact ih (i + 1) _ (by omega) (by omega)
          · have e3 : (zso (gs g f) (i + 1)).1 = nI i := (congrArg Prod.fst (if_neg c33)).trans (if_pos (Or.inr (by rw [ej, nI_clamp (by omega)]; exact c55)))
            refine s_iload (zdk hX9_seasonsOf_0 33 rfl) rfl ?_
            refine s_istore_n (zdk hX9_seasonsOf_0 34 rfl) (Nat.le_of_ble_eq_true rfl) ?_
            refine s_ls (ls' := [some (.ref 941), some (.int (nI f)), some (.int (nI 1)), some (.int (nI i)), some (.int ((zso (gs g f) i).2)), some (.int (nI i)), some (.int (gs g f i))]) rfl ?_
            refine s_iload (zdk hX9_seasonsOf_0 35 rfl) rfl ?_
            refine s_iconstv (v := (-1)) (zdk hX9_seasonsOf_0 36 rfl) zc_iconst_m1 ?_
            refine s_icmp_ne 72 (zdk hX9_seasonsOf_0 37 rfl) (by decide) (fun c64 => ?_) (fun c64 => ?_)
            · have e4 : (zso (gs g f) (i + 1)).2 = zmi ((zso (gs g f) i).2) (gs g f i) := (congrArg Prod.snd (if_neg c33)).trans (if_neg c64)
              refine s_iload (zdk hX9_seasonsOf_0 40 rfl) rfl ?_
              refine s_iload (zdk hX9_seasonsOf_0 41 rfl) rfl ?_
              refine s_callS0 [.int ((zso (gs g f) i).2), .int (gs g f i)] (zdk hX9_seasonsOf_0 42 rfl) cw_X9_121 rfl (Nat.le_of_ble_eq_true rfl) (by decide) (c_min hl (zsL M 942 g) ((zso (gs g f) i).2) (gs g f i)) ?_
              refine s_istore (zdk hX9_seasonsOf_0 43 rfl) (Nat.le_of_ble_eq_true rfl) ?_
              refine s_ls (ls' := [some (.ref 941), some (.int (nI f)), some (.int (nI 1)), some (.int (nI i)), some (.int (zmi ((zso (gs g f) i).2) (gs g f i))), some (.int (nI i)), some (.int (gs g f i))]) rfl ?_
              refine s_ls (ls' := [some (.ref 941), some (.int (nI f)), some (.int (nI 1)), some (.int ((zso (gs g f) (i + 1)).1)), some (.int ((zso (gs g f) (i + 1)).2)), some (.int (nI i)), some (.int (gs g f i))]) (by rw [e3, e4]) ?_
              refine s_iinc (r := nI (i + 1)) (zdk hX9_seasonsOf_0 44 rfl) (Nat.le_of_ble_eq_true rfl) rfl (nI_1 _) ?_
              refine s_ls (ls' := [some (.ref 941), some (.int (nI f)), some (.int (nI 1)), some (.int ((zso (gs g f) (i + 1)).1)), some (.int ((zso (gs g f) (i + 1)).2)), some (.int (nI (i + 1))), some (.int (gs g f i))]) rfl ?_
              refine s_goto 8 (zdk hX9_seasonsOf_0 45 rfl) (by decide) ?_
              exact ih (i + 1) _ (by omega) (by omega)
            · have e4 : (zso (gs g f) (i + 1)).2 = gs g f i := (congrArg Prod.snd (if_neg c33)).trans (if_pos c64)
              refine s_iload (zdk hX9_seasonsOf_0 38 rfl) rfl ?_
              refine s_goto 79 (zdk hX9_seasonsOf_0 39 rfl) (by decide) ?_
              refine s_istore (zdk hX9_seasonsOf_0 43 rfl) (Nat.le_of_ble_eq_true rfl) ?_
              refine s_ls (ls' := [some (.ref 941), some (.int (nI f)), some (.int (nI 1)), some (.int (nI i)), some (.int (gs g f i)), some (.int (nI i)), some (.int (gs g f i))]) rfl ?_
              refine s_ls (ls' := [some (.ref 941), some (.int (nI f)), some (.int (nI 1)), some (.int ((zso (gs g f) (i + 1)).1)), some (.int ((zso (gs g f) (i + 1)).2)), some (.int (nI i)), some (.int (gs g f i))]) (by rw [e3, e4]) ?_
              refine s_iinc (r := nI (i + 1)) (zdk hX9_seasonsOf_0 44 rfl) (Nat.le_of_ble_eq_true rfl) rfl (nI_1 _) ?_
              refine s_ls (ls' := [some (.ref 941), some (.int (nI f)), some (.int (nI 1)), some (.int ((zso (gs g f) (i + 1)).1)), some (.int ((zso (gs g f) (i + 1)).2)), some (.int (nI (i + 1))), some (.int (gs g f i))]) rfl ?_
              refine s_goto 8 (zdk hX9_seasonsOf_0 45 rfl) (by decide) ?_
              exact ih (i + 1) _ (by omega) (by omega)
      · have e3 : (zso (gs g f) (i + 1)).1 = (zso (gs g f) i).1 := congrArg Prod.fst (if_pos c33)
        have e4 : (zso (gs g f) (i + 1)).2 = (zso (gs g f) i).2 := congrArg Prod.snd (if_pos c33)
        refine s_goto 81 (zdk hX9_seasonsOf_0 21 rfl) (by decide) ?_
        refine s_ls (ls' := [some (.ref 941), some (.int (nI f)), some (.int (nI 1)), some (.int ((zso (gs g f) (i + 1)).1)), some (.int ((zso (gs g f) (i + 1)).2)), some (.int (nI i)), some (.int (gs g f i))]) (by rw [e3, e4]) ?_
        refine s_iinc (r := nI (i + 1)) (zdk hX9_seasonsOf_0 44 rfl) (Nat.le_of_ble_eq_true rfl) rfl (nI_1 _) ?_
        refine s_ls (ls' := [some (.ref 941), some (.int (nI f)), some (.int (nI 1)), some (.int ((zso (gs g f) (i + 1)).1)), some (.int ((zso (gs g f) (i + 1)).2)), some (.int (nI (i + 1))), some (.int (gs g f i))]) rfl ?_
        refine s_goto 8 (zdk hX9_seasonsOf_0 45 rfl) (by decide) ?_
        exact ih (i + 1) _ (by omega) (by omega)
theorem c_X9_seasonsOf1 (hl : l.stackTraces = false) {M : zMem} (hm : mSh M) {g : Nat → Int64} (hb : gBd g) {f : Nat} (hf : f < 20) : zCm l G mX9_seasonsOf 2 44 0 0 [.ref 941, .int (nI f), .int (nI 1)] (zsL M 942 g) (zD (some (.int (zsoR (gs g f) (gN g 0) true))) (zsL M 942 g)) := by
  refine zCd.of (ls0 := [some (.ref 941), some (.int (nI f)), some (.int (nI 1)), none, none, none, none]) (by decide +kernel) rfl hl rfl (Nat.le_of_ble_eq_true rfl) rfl ?_
  refine s_iconstv (v := (-1)) (zdk hX9_seasonsOf_0 0 rfl) zc_iconst_m1 ?_
  refine s_istore_n (zdk hX9_seasonsOf_0 1 rfl) (Nat.le_of_ble_eq_true rfl) ?_
  refine s_ls (ls' := [some (.ref 941), some (.int (nI f)), some (.int (nI 1)), some (.int ((-1))), none, none, none]) rfl ?_
  refine s_iconstv (v := (-1)) (zdk hX9_seasonsOf_0 2 rfl) zc_iconst_m1 ?_
  refine s_istore (zdk hX9_seasonsOf_0 3 rfl) (Nat.le_of_ble_eq_true rfl) ?_
  refine s_ls (ls' := [some (.ref 941), some (.int (nI f)), some (.int (nI 1)), some (.int ((-1))), some (.int ((-1))), none, none]) rfl ?_
  refine s_iconstv (v := nI 0) (zdk hX9_seasonsOf_0 4 rfl) zc_iconst_0 ?_
  refine s_istore (zdk hX9_seasonsOf_0 5 rfl) (Nat.le_of_ble_eq_true rfl) ?_
  refine s_ls (ls' := [some (.ref 941), some (.int (nI f)), some (.int (nI 1)), some (.int ((-1))), some (.int ((-1))), some (.int (nI 0)), none]) rfl ?_
  exact w_X9_seasonsOf1 hl hm hb hf (gN g 0 + 1) 0 none (by omega) (by omega)
theorem w_X9_seasonsOf0 (hl : l.stackTraces = false) {M : zMem} (hm : mSh M) {g : Nat → Int64} (hb : gBd g) {f : Nat} (hf : f < 20) : ∀ (k : Nat) (i : Nat) (x6 : Option Value), i ≤ gN g 0 → gN g 0 - i < k → zS l G mX9_seasonsOf 2 44 0 0 8 [some (.ref 941), some (.int (nI f)), some (.int (nI 0)), some (.int ((zso (gs g f) i).1)), some (.int ((zso (gs g f) i).2)), some (.int (nI i)), x6] [] (zsL M 942 g) (zD (some (.int (zsoR (gs g f) (gN g 0) false))) (zsL M 942 g)) := by
  intro k
  induction k with
  | zero => intros; omega
  | succ k ih =>
    intro i x6 hi hk
    have hn := hb.2.2.1.2
    have hc := hb.1.2.2
    have ht4 := hb.2.1.2
    refine s_iload (zdk hX9_seasonsOf_0 6 rfl) rfl ?_
    refine s_aload_n (zdk hX9_seasonsOf_0 7 rfl) rfl ?_
    refine s_iconstv (v := nI 0) (zdk hX9_seasonsOf_0 8 rfl) zc_iconst_0 ?_
    refine s_callV0 (ci := 9) [.int (nI 0)] (zdk hX9_seasonsOf_0 9 rfl) cw_X9_87 (hm.1) (by decide) rfl rfl rfl (Nat.le_of_ble_eq_true rfl) (by decide) (c_X9_itsN hl (M := M) (g := g) hm (k := 0) (by decide) (hb.h0)) ?_
    refine s_icmp_ge 87 (zdk hX9_seasonsOf_0 10 rfl) (by decide) (fun c15 => ?_) (fun c15 => ?_)
    · have n15 : gN g 0 ≤ i := nle c15 (by omega) (by omega)
      obtain rfl : i = gN g 0 := by omega
      have hz := zso_at (gs g f) (gN g 0)
      refine s_iload_n (zdk hX9_seasonsOf_0 46 rfl) rfl ?_
      refine s_if_eq 95 (zdk hX9_seasonsOf_0 47 rfl) (by decide) (fun c88 => ?_) (fun c88 => ?_)
      · refine s_iload_n (zdk hX9_seasonsOf_0 50 rfl) rfl ?_
        refine s_iconstv (v := (-1)) (zdk hX9_seasonsOf_0 51 rfl) zc_iconst_m1 ?_
        refine s_icmp_ne 104 (zdk hX9_seasonsOf_0 52 rfl) (by decide) (fun c97 => ?_) (fun c97 => ?_)
        · obtain ⟨j, hj, ej⟩ := hz.resolve_left c97
          refine s_ls (ls' := [some (.ref 941), some (.int (nI f)), some (.int (nI 0)), some (.int (nI j)), some (.int ((zso (gs g f) (gN g 0)).2)), some (.int (nI (gN g 0))), x6]) (by rw [ej]) ?_
          refine s_aload_n (zdk hX9_seasonsOf_0 55 rfl) rfl ?_
          refine s_iload_n (zdk hX9_seasonsOf_0 56 rfl) rfl ?_
          refine s_bipushv (v := nI 14) (zdk hX9_seasonsOf_0 57 rfl) zc_bipush_14 ?_
          refine s_iload_n (zdk hX9_seasonsOf_0 58 rfl) rfl ?_
          refine s_iadd (zdk hX9_seasonsOf_0 59 rfl) ?_
          refine s_topi (b := nI (14 + j)) (nI_add _ _) ?_
          refine s_callV0 (ci := 9) [.int (nI f), .int (nI (14 + j))] (zdk hX9_seasonsOf_1 0 rfl) cw_X9_211 (hm.1) (by decide) rfl rfl rfl (Nat.le_of_ble_eq_true rfl) (by decide) (c_X9_ofS hl (M := M) (g := g) hm (f := f) (p := j) (by omega)) ?_
          refine s_iload (zdk hX9_seasonsOf_1 1 rfl) rfl ?_
          refine s_isub (zdk hX9_seasonsOf_1 2 rfl) ?_
          refine s_ireturn (zdk hX9_seasonsOf_1 3 rfl) rfl rfl ?_
          first | exact ⟨rfl, rfl⟩ | (unfold zsoR; rw [if_neg (by decide), if_pos c97]; exact ⟨rfl, rfl⟩) | (unfold zsoR; rw [if_neg (by decide), if_neg c97, ej, nI_clamp (by omega)]; exact ⟨rfl, rfl⟩)
        · refine s_iconstv (v := nI 0) (zdk hX9_seasonsOf_0 53 rfl) zc_iconst_0 ?_
          refine s_goto 116 (zdk hX9_seasonsOf_0 54 rfl) (by decide) ?_
          refine s_ireturn (zdk hX9_seasonsOf_1 3 rfl) rfl rfl ?_
          first | exact ⟨rfl, rfl⟩ | (unfold zsoR; rw [if_neg (by decide), if_pos c97]; exact ⟨rfl, rfl⟩) | (unfold zsoR; rw [if_neg (by decide), if_neg c97, ej, nI_clamp (by omega)]; exact ⟨rfl, rfl⟩)
      · exact absurd rfl c88
    · have n15 : i < gN g 0 := nlt c15 (by omega) (by omega)
      refine s_aload_n (zdk hX9_seasonsOf_0 11 rfl) rfl ?_
      refine s_iload_n (zdk hX9_seasonsOf_0 12 rfl) rfl ?_
      refine s_bipushv (v := nI 14) (zdk hX9_seasonsOf_0 13 rfl) zc_bipush_14 ?_
      refine s_iload (zdk hX9_seasonsOf_0 14 rfl) rfl ?_
      refine s_iadd (zdk hX9_seasonsOf_0 15 rfl) ?_
      refine s_topi (b := nI (14 + i)) (nI_add _ _) ?_
      refine s_callV0 (ci := 9) [.int (nI f), .int (nI (14 + i))] (zdk hX9_seasonsOf_0 16 rfl) cw_X9_211 (hm.1) (by decide) rfl rfl rfl (Nat.le_of_ble_eq_true rfl) (by decide) (c_X9_ofS hl (M := M) (g := g) hm (f := f) (p := i) (by omega)) ?_
      refine s_istore (zdk hX9_seasonsOf_0 17 rfl) (Nat.le_of_ble_eq_true rfl) ?_
      refine s_ls (ls' := [some (.ref 941), some (.int (nI f)), some (.int (nI 0)), some (.int ((zso (gs g f) i).1)), some (.int ((zso (gs g f) i).2)), some (.int (nI i)), some (.int (gs g f i))]) rfl ?_
      refine s_iload (zdk hX9_seasonsOf_0 18 rfl) rfl ?_
      refine s_iconstv (v := (-1)) (zdk hX9_seasonsOf_0 19 rfl) zc_iconst_m1 ?_
      refine s_icmp_ne 39 (zdk hX9_seasonsOf_0 20 rfl) (by decide) (fun c33 => ?_) (fun c33 => ?_)
      · refine s_iload_n (zdk hX9_seasonsOf_0 22 rfl) rfl ?_
        refine s_iconstv (v := (-1)) (zdk hX9_seasonsOf_0 23 rfl) zc_iconst_m1 ?_
        refine s_icmp_eq 58 (zdk hX9_seasonsOf_0 24 rfl) (by decide) (fun c41 => ?_) (fun c41 => ?_)
        · have e3 : (zso (gs g f) (i + 1)).1 = nI i := (congrArg Prod.fst (if_neg c33)).trans (if_pos (Or.inl c41))
          refine s_iload (zdk hX9_seasonsOf_0 33 rfl) rfl ?_
          refine s_istore_n (zdk hX9_seasonsOf_0 34 rfl) (Nat.le_of_ble_eq_true rfl) ?_
          refine s_ls (ls' := [some (.ref 941), some (.int (nI f)), some (.int (nI 0)), some (.int (nI i)), some (.int ((zso (gs g f) i).2)), some (.int (nI i)), some (.int (gs g f i))]) rfl ?_
          refine s_iload (zdk hX9_seasonsOf_0 35 rfl) rfl ?_
          refine s_iconstv (v := (-1)) (zdk hX9_seasonsOf_0 36 rfl) zc_iconst_m1 ?_
          refine s_icmp_ne 72 (zdk hX9_seasonsOf_0 37 rfl) (by decide) (fun c64 => ?_) (fun c64 => ?_)
          · have e4 : (zso (gs g f) (i + 1)).2 = zmi ((zso (gs g f) i).2) (gs g f i) := (congrArg Prod.snd (if_neg c33)).trans (if_neg c64)
            refine s_iload (zdk hX9_seasonsOf_0 40 rfl) rfl ?_
            refine s_iload (zdk hX9_seasonsOf_0 41 rfl) rfl ?_
            refine s_callS0 [.int ((zso (gs g f) i).2), .int (gs g f i)] (zdk hX9_seasonsOf_0 42 rfl) cw_X9_121 rfl (Nat.le_of_ble_eq_true rfl) (by decide) (c_min hl (zsL M 942 g) ((zso (gs g f) i).2) (gs g f i)) ?_
            refine s_istore (zdk hX9_seasonsOf_0 43 rfl) (Nat.le_of_ble_eq_true rfl) ?_
            refine s_ls (ls' := [some (.ref 941), some (.int (nI f)), some (.int (nI 0)), some (.int (nI i)), some (.int (zmi ((zso (gs g f) i).2) (gs g f i))), some (.int (nI i)), some (.int (gs g f i))]) rfl ?_
            refine s_ls (ls' := [some (.ref 941), some (.int (nI f)), some (.int (nI 0)), some (.int ((zso (gs g f) (i + 1)).1)), some (.int ((zso (gs g f) (i + 1)).2)), some (.int (nI i)), some (.int (gs g f i))]) (by rw [e3, e4]) ?_
            refine s_iinc (r := nI (i + 1)) (zdk hX9_seasonsOf_0 44 rfl) (Nat.le_of_ble_eq_true rfl) rfl (nI_1 _) ?_
            refine s_ls (ls' := [some (.ref 941), some (.int (nI f)), some (.int (nI 0)), some (.int ((zso (gs g f) (i + 1)).1)), some (.int ((zso (gs g f) (i + 1)).2)), some (.int (nI (i + 1))), some (.int (gs g f i))]) rfl ?_
            refine s_goto 8 (zdk hX9_seasonsOf_0 45 rfl) (by decide) ?_
            exact ih (i + 1) _ (by omega) (by omega)
          · have e4 : (zso (gs g f) (i + 1)).2 = gs g f i := (congrArg Prod.snd (if_neg c33)).trans (if_pos c64)
            refine s_iload (zdk hX9_seasonsOf_0 38 rfl) rfl ?_
            refine s_goto 79 (zdk hX9_seasonsOf_0 39 rfl) (by decide) ?_
            refine s_istore (zdk hX9_seasonsOf_0 43 rfl) (Nat.le_of_ble_eq_true rfl) ?_
            refine s_ls (ls' := [some (.ref 941), some (.int (nI f)), some (.int (nI 0)), some (.int (nI i)), some (.int (gs g f i)), some (.int (nI i)), some (.int (gs g f i))]) rfl ?_
            refine s_ls (ls' := [some (.ref 941), some (.int (nI f)), some (.int (nI 0)), some (.int ((zso (gs g f) (i + 1)).1)), some (.int ((zso (gs g f) (i + 1)).2)), some (.int (nI i)), some (.int (gs g f i))]) (by rw [e3, e4]) ?_
            refine s_iinc (r := nI (i + 1)) (zdk hX9_seasonsOf_0 44 rfl) (Nat.le_of_ble_eq_true rfl) rfl (nI_1 _) ?_
            refine s_ls (ls' := [some (.ref 941), some (.int (nI f)), some (.int (nI 0)), some (.int ((zso (gs g f) (i + 1)).1)), some (.int ((zso (gs g f) (i + 1)).2)), some (.int (nI (i + 1))), some (.int (gs g f i))]) rfl ?_
            refine s_goto 8 (zdk hX9_seasonsOf_0 45 rfl) (by decide) ?_
            exact ih (i + 1) _ (by omega) (by omega)
        · obtain ⟨j, hj, ej⟩ := (zso_at (gs g f) i).resolve_left c41
          refine s_ls (ls' := [some (.ref 941), some (.int (nI f)), some (.int (nI 0)), some (.int (nI j)), some (.int ((zso (gs g f) i).2)), some (.int (nI i)), some (.int (gs g f i))]) (by rw [ej]) ?_
          refine s_iload (zdk hX9_seasonsOf_0 25 rfl) rfl ?_
          refine s_aload_n (zdk hX9_seasonsOf_0 26 rfl) rfl ?_
          refine s_iload_n (zdk hX9_seasonsOf_0 27 rfl) rfl ?_
          refine s_bipushv (v := nI 14) (zdk hX9_seasonsOf_0 28 rfl) zc_bipush_14 ?_
          refine s_iload_n (zdk hX9_seasonsOf_0 29 rfl) rfl ?_
          refine s_iadd (zdk hX9_seasonsOf_0 30 rfl) ?_
          refine s_topi (b := nI (14 + j)) (nI_add _ _) ?_
          refine s_callV0 (ci := 9) [.int (nI f), .int (nI (14 + j))] (zdk hX9_seasonsOf_0 31 rfl) cw_X9_211 (hm.1) (by decide) rfl rfl rfl (Nat.le_of_ble_eq_true rfl) (by decide) (c_X9_ofS hl (M := M) (g := g) hm (f := f) (p := j) (by omega)) ?_
          refine s_icmp_le 61 (zdk hX9_seasonsOf_0 32 rfl) (by decide) (fun c55 => ?_) (fun c55 => ?_)
          · have e3 : (zso (gs g f) (i + 1)).1 = nI j := (congrArg Prod.fst (if_neg c33)).trans ((if_neg (fun q => by rcases q with q | q; exact c41 q; exact q (by rw [ej, nI_clamp (by omega)]; exact c55))).trans ej)
            refine s_iload (zdk hX9_seasonsOf_0 35 rfl) rfl ?_
            refine s_iconstv (v := (-1)) (zdk hX9_seasonsOf_0 36 rfl) zc_iconst_m1 ?_
            refine s_icmp_ne 72 (zdk hX9_seasonsOf_0 37 rfl) (by decide) (fun c64 => ?_) (fun c64 => ?_)
            · have e4 : (zso (gs g f) (i + 1)).2 = zmi ((zso (gs g f) i).2) (gs g f i) := (congrArg Prod.snd (if_neg c33)).trans (if_neg c64)
              refine s_iload (zdk hX9_seasonsOf_0 40 rfl) rfl ?_
              refine s_iload (zdk hX9_seasonsOf_0 41 rfl) rfl ?_
              refine s_callS0 [.int ((zso (gs g f) i).2), .int (gs g f i)] (zdk hX9_seasonsOf_0 42 rfl) cw_X9_121 rfl (Nat.le_of_ble_eq_true rfl) (by decide) (c_min hl (zsL M 942 g) ((zso (gs g f) i).2) (gs g f i)) ?_
              refine s_istore (zdk hX9_seasonsOf_0 43 rfl) (Nat.le_of_ble_eq_true rfl) ?_
              refine s_ls (ls' := [some (.ref 941), some (.int (nI f)), some (.int (nI 0)), some (.int (nI j)), some (.int (zmi ((zso (gs g f) i).2) (gs g f i))), some (.int (nI i)), some (.int (gs g f i))]) rfl ?_
              refine s_ls (ls' := [some (.ref 941), some (.int (nI f)), some (.int (nI 0)), some (.int ((zso (gs g f) (i + 1)).1)), some (.int ((zso (gs g f) (i + 1)).2)), some (.int (nI i)), some (.int (gs g f i))]) (by rw [e3, e4]) ?_
              refine s_iinc (r := nI (i + 1)) (zdk hX9_seasonsOf_0 44 rfl) (Nat.le_of_ble_eq_true rfl) rfl (nI_1 _) ?_
              refine s_ls (ls' := [some (.ref 941), some (.int (nI f)), some (.int (nI 0)), some (.int ((zso (gs g f) (i + 1)).1)), some (.int ((zso (gs g f) (i + 1)).2)), some (.int (nI (i + 1))), some (.int (gs g f i))]) rfl ?_
              refine s_goto 8 (zdk hX9_seasonsOf_0 45 rfl) (by decide) ?_
              exact ih (i + 1) _ (by omega) (by omega)
            · have e4 : (zso (gs g f) (i + 1)).2 = gs g f i := (congrArg Prod.snd (if_neg c33)).trans (if_pos c64)
              refine s_iload (zdk hX9_seasonsOf_0 38 rfl) rfl ?_
              refine s_goto 79 (zdk hX9_seasonsOf_0 39 rfl) (by decide) ?_
              refine s_istore (zdk hX9_seasonsOf_0 43 rfl) (Nat.le_of_ble_eq_true rfl) ?_
              refine s_ls (ls' := [some (.ref 941), some (.int (nI f)), some (.int (nI 0)), some (.int (nI j)), some (.int (gs g f i)), some (.int (nI i)), some (.int (gs g f i))]) rfl ?_
              refine s_ls (ls' := [some (.ref 941), some (.int (nI f)), some (.int (nI 0)), some (.int ((zso (gs g f) (i + 1)).1)), some (.int ((zso (gs g f) (i + 1)).2)), some (.int (nI i)), some (.int (gs g f i))]) (by rw [e3, e4]) ?_
              refine s_iinc (r := nI (i + 1)) (zdk hX9_seasonsOf_0 44 rfl) (Nat.le_of_ble_eq_true rfl) rfl (nI_1 _) ?_
              refine s_ls (ls' := [some (.ref 941), some (.int (nI f)), some (.int (nI 0)), some (.int ((zso (gs g f) (i + 1)).1)), some (.int ((zso (gs g f) (i + 1)).2)), some (.int (nI (i + 1))), some (.int (gs g f i))]) rfl ?_
              refine s_goto 8 (zdk hX9_seasonsOf_0 45 rfl) (by decide) ?_
              exact ih (i + 1) _ (by omega) (by omega)
          · have e3 : (zso (gs g f) (i + 1)).1 = nI i := (congrArg Prod.fst (if_neg c33)).trans (if_pos (Or.inr (by rw [ej, nI_clamp (by omega)]; exact c55)))
            refine s_iload (zdk hX9_seasonsOf_0 33 rfl) rfl ?_
            refine s_istore_n (zdk hX9_seasonsOf_0 34 rfl) (Nat.le_of_ble_eq_true rfl) ?_
            refine s_ls (ls' := [some (.ref 941), some (.int (nI f)), some (.int (nI 0)), some (.int (nI i)), some (.int ((zso (gs g f) i).2)), some (.int (nI i)), some (.int (gs g f i))]) rfl ?_
            refine s_iload (zdk hX9_seasonsOf_0 35 rfl) rfl ?_
            refine s_iconstv (v := (-1)) (zdk hX9_seasonsOf_0 36 rfl) zc_iconst_m1 ?_
            refine s_icmp_ne 72 (zdk hX9_seasonsOf_0 37 rfl) (by decide) (fun c64 => ?_) (fun c64 => ?_)
            · have e4 : (zso (gs g f) (i + 1)).2 = zmi ((zso (gs g f) i).2) (gs g f i) := (congrArg Prod.snd (if_neg c33)).trans (if_neg c64)
              refine s_iload (zdk hX9_seasonsOf_0 40 rfl) rfl ?_
              refine s_iload (zdk hX9_seasonsOf_0 41 rfl) rfl ?_
              refine s_callS0 [.int ((zso (gs g f) i).2), .int (gs g f i)] (zdk hX9_seasonsOf_0 42 rfl) cw_X9_121 rfl (Nat.le_of_ble_eq_true rfl) (by decide) (c_min hl (zsL M 942 g) ((zso (gs g f) i).2) (gs g f i)) ?_
              refine s_istore (zdk hX9_seasonsOf_0 43 rfl) (Nat.le_of_ble_eq_true rfl) ?_
              refine s_ls (ls' := [some (.ref 941), some (.int (nI f)), some (.int (nI 0)), some (.int (nI i)), some (.int (zmi ((zso (gs g f) i).2) (gs g f i))), some (.int (nI i)), some (.int (gs g f i))]) rfl ?_
              refine s_ls (ls' := [some (.ref 941), some (.int (nI f)), some (.int (nI 0)), some (.int ((zso (gs g f) (i + 1)).1)), some (.int ((zso (gs g f) (i + 1)).2)), some (.int (nI i)), some (.int (gs g f i))]) (by rw [e3, e4]) ?_
              refine s_iinc (r := nI (i + 1)) (zdk hX9_seasonsOf_0 44 rfl) (Nat.le_of_ble_eq_true rfl) rfl (nI_1 _) ?_
              refine s_ls (ls' := [some (.ref 941), some (.int (nI f)), some (.int (nI 0)), some (.int ((zso (gs g f) (i + 1)).1)), some (.int ((zso (gs g f) (i + 1)).2)), some (.int (nI (i + 1))), some (.int (gs g f i))]) rfl ?_
              refine s_goto 8 (zdk hX9_seasonsOf_0 45 rfl) (by decide) ?_
              exact ih (i + 1) _ (by omega) (by omega)
            · have e4 : (zso (gs g f) (i + 1)).2 = gs g f i := (congrArg Prod.snd (if_neg c33)).trans (if_pos c64)
              refine s_iload (zdk hX9_seasonsOf_0 38 rfl) rfl ?_
              refine s_goto 79 (zdk hX9_seasonsOf_0 39 rfl) (by decide) ?_
              refine s_istore (zdk hX9_seasonsOf_0 43 rfl) (Nat.le_of_ble_eq_true rfl) ?_
              refine s_ls (ls' := [some (.ref 941), some (.int (nI f)), some (.int (nI 0)), some (.int (nI i)), some (.int (gs g f i)), some (.int (nI i)), some (.int (gs g f i))]) rfl ?_
              refine s_ls (ls' := [some (.ref 941), some (.int (nI f)), some (.int (nI 0)), some (.int ((zso (gs g f) (i + 1)).1)), some (.int ((zso (gs g f) (i + 1)).2)), some (.int (nI i)), some (.int (gs g f i))]) (by rw [e3, e4]) ?_
              refine s_iinc (r := nI (i + 1)) (zdk hX9_seasonsOf_0 44 rfl) (Nat.le_of_ble_eq_true rfl) rfl (nI_1 _) ?_
              refine s_ls (ls' := [some (.ref 941), some (.int (nI f)), some (.int (nI 0)), some (.int ((zso (gs g f) (i + 1)).1)), some (.int ((zso (gs g f) (i + 1)).2)), some (.int (nI (i + 1))), some (.int (gs g f i))]) rfl ?_
              refine s_goto 8 (zdk hX9_seasonsOf_0 45 rfl) (by decide) ?_
              exact ih (i + 1) _ (by omega) (by omega)
      · have e3 : (zso (gs g f) (i + 1)).1 = (zso (gs g f) i).1 := congrArg Prod.fst (if_pos c33)
        have e4 : (zso (gs g f) (i + 1)).2 = (zso (gs g f) i).2 := congrArg Prod.snd (if_pos c33)
        refine s_goto 81 (zdk hX9_seasonsOf_0 21 rfl) (by decide) ?_
        refine s_ls (ls' := [some (.ref 941), some (.int (nI f)), some (.int (nI 0)), some (.int ((zso (gs g f) (i + 1)).1)), some (.int ((zso (gs g f) (i + 1)).2)), some (.int (nI i)), some (.int (gs g f i))]) (by rw [e3, e4]) ?_
        refine s_iinc (r := nI (i + 1)) (zdk hX9_seasonsOf_0 44 rfl) (Nat.le_of_ble_eq_true rfl) rfl (nI_1 _) ?_
        refine s_ls (ls' := [some (.ref 941), some (.int (nI f)), some (.int (nI 0)), some (.int ((zso (gs g f) (i + 1)).1)), some (.int ((zso (gs g f) (i + 1)).2)), some (.int (nI (i + 1))), some (.int (gs g f i))]) rfl ?_
        refine s_goto 8 (zdk hX9_seasonsOf_0 45 rfl) (by decide) ?_
        exact ih (i + 1) _ (by omega) (by omega)
theorem c_X9_seasonsOf0 (hl : l.stackTraces = false) {M : zMem} (hm : mSh M) {g : Nat → Int64} (hb : gBd g) {f : Nat} (hf : f < 20) : zCm l G mX9_seasonsOf 2 44 0 0 [.ref 941, .int (nI f), .int (nI 0)] (zsL M 942 g) (zD (some (.int (zsoR (gs g f) (gN g 0) false))) (zsL M 942 g)) := by
  refine zCd.of (ls0 := [some (.ref 941), some (.int (nI f)), some (.int (nI 0)), none, none, none, none]) (by decide +kernel) rfl hl rfl (Nat.le_of_ble_eq_true rfl) rfl ?_
  refine s_iconstv (v := (-1)) (zdk hX9_seasonsOf_0 0 rfl) zc_iconst_m1 ?_
  refine s_istore_n (zdk hX9_seasonsOf_0 1 rfl) (Nat.le_of_ble_eq_true rfl) ?_
  refine s_ls (ls' := [some (.ref 941), some (.int (nI f)), some (.int (nI 0)), some (.int ((-1))), none, none, none]) rfl ?_
  refine s_iconstv (v := (-1)) (zdk hX9_seasonsOf_0 2 rfl) zc_iconst_m1 ?_
  refine s_istore (zdk hX9_seasonsOf_0 3 rfl) (Nat.le_of_ble_eq_true rfl) ?_
  refine s_ls (ls' := [some (.ref 941), some (.int (nI f)), some (.int (nI 0)), some (.int ((-1))), some (.int ((-1))), none, none]) rfl ?_
  refine s_iconstv (v := nI 0) (zdk hX9_seasonsOf_0 4 rfl) zc_iconst_0 ?_
  refine s_istore (zdk hX9_seasonsOf_0 5 rfl) (Nat.le_of_ble_eq_true rfl) ?_
  refine s_ls (ls' := [some (.ref 941), some (.int (nI f)), some (.int (nI 0)), some (.int ((-1))), some (.int ((-1))), some (.int (nI 0)), none]) rfl ?_
  exact w_X9_seasonsOf0 hl hm hb hf (gN g 0 + 1) 0 none (by omega) (by omega)
theorem w_X9_strange_5 (hl : l.stackTraces = false) {M : zMem} (hm : mSh M) {g : Nat → Int64} (hb : gBd g) {f : Nat} (hf : f < 20) {n : Nat} (hke : gf g f 4 = nI n) (hn24 : n ≤ 24) {c : Nat} (hcn : c ≤ n) : ∀ (k : Nat) (i : Nat) (x5 : Option Value), i ≤ n - c → n - c - i < k → zS l G mX9_strange 2 44 0 0 5 [some (.ref 941), some (.int (nI f)), some (.int (nI c)), some (.int (zdR (gu g f) c i)), some (.int (nI (c + i))), x5] [] (zsL M 942 g) (zD (some (.int (zdR (gu g f) c (n - c)))) (zsL M 942 g)) := by
  intro k
  induction k with
  | zero => intros; omega
  | succ k ih =>
    intro i x5 hi hk
    refine s_iload (zdk hX9_strange 4 rfl) rfl ?_
    refine s_aload_n (zdk hX9_strange 5 rfl) rfl ?_
    refine s_iload_n (zdk hX9_strange 6 rfl) rfl ?_
    refine s_iconstv (v := nI 4) (zdk hX9_strange 7 rfl) zc_iconst_4 ?_
    refine s_callV0 (ci := 9) [.int (nI f), .int (nI 4)] (zdk hX9_strange 8 rfl) cw_X9_211 (hm.1) (by decide) rfl rfl rfl (Nat.le_of_ble_eq_true rfl) (by decide) (c_X9_of hl (M := M) (g := g) hm (f := f) (k := 4) (by omega)) ?_
    refine s_topi (b := nI n) (hke) ?_
    refine s_icmp_ge 63 (zdk hX9_strange 9 rfl) (by decide) (fun c13 => ?_) (fun c13 => ?_)
    · have n13 : n ≤ c + i := nle c13 (by omega) (by omega)
      obtain rfl : i = n - c := by omega
      refine s_iload_n (zdk hX9_strange 37 rfl) rfl ?_
      refine s_ireturn (zdk hX9_strange 38 rfl) rfl rfl ?_
      exact ⟨rfl, rfl⟩
    · have n13 : c + i < n := nlt c13 (by omega) (by omega)
      refine s_aload_n (zdk hX9_strange 10 rfl) rfl ?_
      refine s_iload_n (zdk hX9_strange 11 rfl) rfl ?_
      refine s_bipushv (v := nI 26) (zdk hX9_strange 12 rfl) zc_bipush_26 ?_
      refine s_iload (zdk hX9_strange 13 rfl) rfl ?_
      refine s_iadd (zdk hX9_strange 14 rfl) ?_
      refine s_topi (b := nI (26 + (c + i))) (nI_add _ _) ?_
      refine s_callV0 (ci := 9) [.int (nI f), .int (nI (26 + (c + i)))] (zdk hX9_strange 15 rfl) cw_X9_211 (hm.1) (by decide) rfl rfl rfl (Nat.le_of_ble_eq_true rfl) (by decide) (c_X9_ofU hl (M := M) (g := g) hm (f := f) (j := (c + i)) (by omega)) ?_
      refine s_aload_n (zdk hX9_strange 16 rfl) rfl ?_
      refine s_iload_n (zdk hX9_strange 17 rfl) rfl ?_
      refine s_bipushv (v := nI 26) (zdk hX9_strange 18 rfl) zc_bipush_26 ?_
      refine s_iload (zdk hX9_strange 19 rfl) rfl ?_
      refine s_iadd (zdk hX9_strange 20 rfl) ?_
      refine s_topi (b := nI (26 + (c + i))) (nI_add _ _) ?_
      refine s_iload_n (zdk hX9_strange 21 rfl) rfl ?_
      refine s_isub (zdk hX9_strange 22 rfl) ?_
      refine s_topi (b := nI (26 + i)) ((pk_sub (by omega)).trans (congrArg nI (by omega))) ?_
      refine s_callV0 (ci := 9) [.int (nI f), .int (nI (26 + i))] (zdk hX9_strange 23 rfl) cw_X9_211 (hm.1) (by decide) rfl rfl rfl (Nat.le_of_ble_eq_true rfl) (by decide) (c_X9_ofU hl (M := M) (g := g) hm (f := f) (j := i) (by omega)) ?_
      refine s_isub (zdk hX9_strange 24 rfl) ?_
      refine s_istore (zdk hX9_strange 25 rfl) (Nat.le_of_ble_eq_true rfl) ?_
      refine s_ls (ls' := [some (.ref 941), some (.int (nI f)), some (.int (nI c)), some (.int (zdR (gu g f) c i)), some (.int (nI (c + i))), some (.int ((gu g f (c + i)) - (gu g f i)))]) rfl ?_
      refine s_iload_n (zdk hX9_strange 26 rfl) rfl ?_
      refine s_iload (zdk hX9_strange 27 rfl) rfl ?_
      refine s_if_ge 53 (zdk hX9_strange 28 rfl) (by decide) (fun c44 => ?_) (fun c44 => ?_)
      · have e1 : zdR (gu g f) c (i + 1) = zdR (gu g f) c i + (gu g f (c + i) - gu g f i) := by show _ + zab _ = _; rw [zab, if_neg (Int32.not_lt.mpr c44)]
        refine s_iload (zdk hX9_strange 32 rfl) rfl ?_
        refine s_iadd (zdk hX9_strange 33 rfl) ?_
        refine s_istore_n (zdk hX9_strange 34 rfl) (Nat.le_of_ble_eq_true rfl) ?_
        refine s_ls (ls' := [some (.ref 941), some (.int (nI f)), some (.int (nI c)), some (.int ((zdR (gu g f) c i) + ((gu g f (c + i)) - (gu g f i)))), some (.int (nI (c + i))), some (.int ((gu g f (c + i)) - (gu g f i)))]) rfl ?_
        refine s_ls (ls' := [some (.ref 941), some (.int (nI f)), some (.int (nI c)), some (.int (zdR (gu g f) c (i + 1))), some (.int (nI (c + i))), some (.int ((gu g f (c + i)) - (gu g f i)))]) (by rw [e1]) ?_
        refine s_iinc (r := nI (c + i + 1)) (zdk hX9_strange 35 rfl) (Nat.le_of_ble_eq_true rfl) rfl (nI_1 _) ?_
        refine s_ls (ls' := [some (.ref 941), some (.int (nI f)), some (.int (nI c)), some (.int (zdR (gu g f) c (i + 1))), some (.int (nI (c + i + 1))), some (.int ((gu g f (c + i)) - (gu g f i)))]) rfl ?_
        refine s_goto 5 (zdk hX9_strange 36 rfl) (by decide) ?_
        exact ih (i + 1) _ (by omega) (by omega)
      · have e1 : zdR (gu g f) c (i + 1) = zdR (gu g f) c i + (-(gu g f (c + i) - gu g f i)) := by show _ + zab _ = _; rw [zab, if_pos (Int32.not_le.mp c44)]
        refine s_iload (zdk hX9_strange 29 rfl) rfl ?_
        refine s_ineg (zdk hX9_strange 30 rfl) ?_
        refine s_goto 55 (zdk hX9_strange 31 rfl) (by decide) ?_
        refine s_iadd (zdk hX9_strange 33 rfl) ?_
        refine s_istore_n (zdk hX9_strange 34 rfl) (Nat.le_of_ble_eq_true rfl) ?_
        refine s_ls (ls' := [some (.ref 941), some (.int (nI f)), some (.int (nI c)), some (.int ((zdR (gu g f) c i) + (-((gu g f (c + i)) - (gu g f i))))), some (.int (nI (c + i))), some (.int ((gu g f (c + i)) - (gu g f i)))]) rfl ?_
        refine s_ls (ls' := [some (.ref 941), some (.int (nI f)), some (.int (nI c)), some (.int (zdR (gu g f) c (i + 1))), some (.int (nI (c + i))), some (.int ((gu g f (c + i)) - (gu g f i)))]) (by rw [e1]) ?_
        refine s_iinc (r := nI (c + i + 1)) (zdk hX9_strange 35 rfl) (Nat.le_of_ble_eq_true rfl) rfl (nI_1 _) ?_
        refine s_ls (ls' := [some (.ref 941), some (.int (nI f)), some (.int (nI c)), some (.int (zdR (gu g f) c (i + 1))), some (.int (nI (c + i + 1))), some (.int ((gu g f (c + i)) - (gu g f i)))]) rfl ?_
        refine s_goto 5 (zdk hX9_strange 36 rfl) (by decide) ?_
        exact ih (i + 1) _ (by omega) (by omega)
theorem c_X9_strange (hl : l.stackTraces = false) {M : zMem} (hm : mSh M) {g : Nat → Int64} (hb : gBd g) {f : Nat} (hf : f < 20) {n : Nat} (hke : gf g f 4 = nI n) (hn24 : n ≤ 24) {c : Nat} (hcn : c ≤ n) : zCm l G mX9_strange 2 44 0 0 [.ref 941, .int (nI f), .int (nI c)] (zsL M 942 g) (zD (some (.int (zdR (gu g f) c (n - c)))) (zsL M 942 g)) := by
  refine zCd.of (ls0 := [some (.ref 941), some (.int (nI f)), some (.int (nI c)), none, none, none]) (by decide +kernel) rfl hl rfl (Nat.le_of_ble_eq_true rfl) rfl ?_
  refine s_iconstv (v := nI 0) (zdk hX9_strange 0 rfl) zc_iconst_0 ?_
  refine s_istore_n (zdk hX9_strange 1 rfl) (Nat.le_of_ble_eq_true rfl) ?_
  refine s_ls (ls' := [some (.ref 941), some (.int (nI f)), some (.int (nI c)), some (.int (nI 0)), none, none]) rfl ?_
  refine s_iload_n (zdk hX9_strange 2 rfl) rfl ?_
  refine s_istore (zdk hX9_strange 3 rfl) (Nat.le_of_ble_eq_true rfl) ?_
  refine s_ls (ls' := [some (.ref 941), some (.int (nI f)), some (.int (nI c)), some (.int (nI 0)), some (.int (nI c)), none]) rfl ?_
  exact w_X9_strange_5 hl hm hb hf hke hn24 hcn (n - c + 1) 0 none (by omega) (by omega)
theorem w_X9_ownCycle_13 (hl : l.stackTraces = false) {M : zMem} (hm : mSh M) {g : Nat → Int64} (hb : gBd g) {f : Nat} (hf : f < 20) {n : Nat} (hke : gf g f 4 = nI n) (hn24 : n ≤ 24) : ∀ (k : Nat) (i : Nat), i ≤ zon n → zon n - i < k → zS l G mX9_ownCycle 3 70 0 0 13 [some (.ref 941), some (.int (nI f)), some (.int (zoR (gu g f) n i)), some (.long ((nI n).toInt64)), none, some (.int (nI (i + 2)))] [] (zsL M 942 g) (zD (some (.int (zoR (gu g f) n (zon n)))) (zsL M 942 g)) := by
  intro k
  induction k with
  | zero => intros; omega
  | succ k ih =>
    intro i hi hk
    have hzn : zon n ≤ 11 := by unfold zon; omega
    refine s_iload (zdk hX9_ownCycle 10 rfl) rfl ?_
    refine s_bipushv (v := nI 12) (zdk hX9_ownCycle 11 rfl) zc_bipush_12 ?_
    refine s_icmp_gt 72 (zdk hX9_ownCycle 12 rfl) (by decide) (fun c17 => ?_) (fun c17 => ?_)
    · have n17 : 12 < i + 2 := nlt' c17 (by omega) (by omega)
      have hz : i = zon n := by unfold zon at *; omega
      subst hz
      refine s_iload_n (zdk hX9_ownCycle 47 rfl) rfl ?_
      refine s_ireturn (zdk hX9_ownCycle 48 rfl) rfl rfl ?_
      exact ⟨rfl, rfl⟩
    · have n17 : i + 2 ≤ 12 := nge' c17 (by omega) (by omega)
      refine s_iload (zdk hX9_ownCycle 13 rfl) rfl ?_
      refine s_i2l (zdk hX9_ownCycle 14 rfl) ?_
      refine s_lload_n (zdk hX9_ownCycle 15 rfl) rfl ?_
      refine s_lcmp (zdk hX9_ownCycle 16 rfl) ?_
      refine s_if_ge 72 (zdk hX9_ownCycle 17 rfl) (by decide) (fun c25 => ?_) (fun c25 => ?_)
      · have h9 := lcmp_ge c25
        have h8 : n ≤ i + 2 := Nat.not_lt.mp (fun q => h9 ((nI_lt64 (by omega) (by omega)).mpr q))
        have hz : i = zon n := by unfold zon at *; omega
        subst hz
        refine s_iload_n (zdk hX9_ownCycle 47 rfl) rfl ?_
        refine s_ireturn (zdk hX9_ownCycle 48 rfl) rfl rfl ?_
        exact ⟨rfl, rfl⟩
      · have h8 : i + 2 < n := (nI_lt64 (by omega) (by omega)).mp (lcmp_lt c25)
        have h7 : i < zon n := by unfold zon; omega
        refine s_iload_n (zdk hX9_ownCycle 18 rfl) rfl ?_
        refine s_iconstv (v := (-1)) (zdk hX9_ownCycle 19 rfl) zc_iconst_m1 ?_
        refine s_icmp_eq 63 (zdk hX9_ownCycle 20 rfl) (by decide) (fun c30 => ?_) (fun c30 => ?_)
        · have e1 : zoR (gu g f) n (i + 1) = nI (i + 2) := if_pos (Or.inl c30)
          refine s_iload (zdk hX9_ownCycle 43 rfl) rfl ?_
          refine s_istore_n (zdk hX9_ownCycle 44 rfl) (Nat.le_of_ble_eq_true rfl) ?_
          refine s_ls (ls' := [some (.ref 941), some (.int (nI f)), some (.int (nI (i + 2))), some (.long ((nI n).toInt64)), none, some (.int (nI (i + 2)))]) rfl ?_
          refine s_ls (ls' := [some (.ref 941), some (.int (nI f)), some (.int (zoR (gu g f) n (i + 1))), some (.long ((nI n).toInt64)), none, some (.int (nI (i + 2)))]) (by rw [e1]) ?_
          refine s_iinc (r := nI (i + 1 + 2)) (zdk hX9_ownCycle 45 rfl) (Nat.le_of_ble_eq_true rfl) rfl ((nI_1 _).trans (congrArg nI (by omega))) ?_
          refine s_ls (ls' := [some (.ref 941), some (.int (nI f)), some (.int (zoR (gu g f) n (i + 1))), some (.long ((nI n).toInt64)), none, some (.int (nI (i + 1 + 2)))]) rfl ?_
          refine s_goto 13 (zdk hX9_ownCycle 46 rfl) (by decide) ?_
          exact ih (i + 1) (by omega) (by omega)
        · obtain ⟨j, hj2, hj, ej⟩ := (zoR_at (gu g f) n i).resolve_left c30
          refine s_ls (ls' := [some (.ref 941), some (.int (nI f)), some (.int (nI j)), some (.long (nI n).toInt64), none, some (.int (nI (i + 2)))]) (by rw [ej]) ?_
          refine s_aload_n (zdk hX9_ownCycle 21 rfl) rfl ?_
          refine s_iload_n (zdk hX9_ownCycle 22 rfl) rfl ?_
          refine s_iload (zdk hX9_ownCycle 23 rfl) rfl ?_
          refine s_callV0 (ci := 9) [.int (nI f), .int (nI (i + 2))] (zdk hX9_ownCycle 24 rfl) cw_X9_230 (hm.1) (by decide) rfl rfl rfl (Nat.le_of_ble_eq_true rfl) (by decide) (c_X9_strange hl (M := M) (g := g) hm hb (f := f) hf hke hn24 (c := (i + 2)) (by omega)) ?_
          refine s_i2l (zdk hX9_ownCycle 25 rfl) ?_
          refine s_lload_n (zdk hX9_ownCycle 26 rfl) rfl ?_
          refine s_iload_n (zdk hX9_ownCycle 27 rfl) rfl ?_
          refine s_i2l (zdk hX9_ownCycle 28 rfl) ?_
          refine s_lsub (zdk hX9_ownCycle 29 rfl) ?_
          refine s_lmul (zdk hX9_ownCycle 30 rfl) ?_
          refine s_aload_n (zdk hX9_ownCycle 31 rfl) rfl ?_
          refine s_iload_n (zdk hX9_ownCycle 32 rfl) rfl ?_
          refine s_iload_n (zdk hX9_ownCycle 33 rfl) rfl ?_
          refine s_callV0 (ci := 9) [.int (nI f), .int (nI j)] (zdk hX9_ownCycle 34 rfl) cw_X9_230 (hm.1) (by decide) rfl rfl rfl (Nat.le_of_ble_eq_true rfl) (by decide) (c_X9_strange hl (M := M) (g := g) hm hb (f := f) hf hke hn24 (c := j) (by omega)) ?_
          refine s_i2l (zdk hX9_ownCycle 35 rfl) ?_
          refine s_lload_n (zdk hX9_ownCycle 36 rfl) rfl ?_
          refine s_iload (zdk hX9_ownCycle 37 rfl) rfl ?_
          refine s_i2l (zdk hX9_ownCycle 38 rfl) ?_
          refine s_lsub (zdk hX9_ownCycle 39 rfl) ?_
          refine s_lmul (zdk hX9_ownCycle 40 rfl) ?_
          refine s_lcmp (zdk hX9_ownCycle 41 rfl) ?_
          refine s_if_ge 66 (zdk hX9_ownCycle 42 rfl) (by decide) (fun c60 => ?_) (fun c60 => ?_)
          · have e1 : zoR (gu g f) n (i + 1) = nI j := (if_neg (fun q => by rcases q with q | q; exact c30 q; exact lcmp_ge c60 (by rw [ej, nI_clamp (by omega)] at q; exact q))).trans ej
            refine s_ls (ls' := [some (.ref 941), some (.int (nI f)), some (.int (zoR (gu g f) n (i + 1))), some (.long ((nI n).toInt64)), none, some (.int (nI (i + 2)))]) (by rw [e1]) ?_
            refine s_iinc (r := nI (i + 1 + 2)) (zdk hX9_ownCycle 45 rfl) (Nat.le_of_ble_eq_true rfl) rfl ((nI_1 _).trans (congrArg nI (by omega))) ?_
            refine s_ls (ls' := [some (.ref 941), some (.int (nI f)), some (.int (zoR (gu g f) n (i + 1))), some (.long ((nI n).toInt64)), none, some (.int (nI (i + 1 + 2)))]) rfl ?_
            refine s_goto 13 (zdk hX9_ownCycle 46 rfl) (by decide) ?_
            exact ih (i + 1) (by omega) (by omega)
          · have e1 : zoR (gu g f) n (i + 1) = nI (i + 2) := if_pos (Or.inr (by rw [ej, nI_clamp (by omega)]; exact lcmp_lt c60))
            refine s_iload (zdk hX9_ownCycle 43 rfl) rfl ?_
            refine s_istore_n (zdk hX9_ownCycle 44 rfl) (Nat.le_of_ble_eq_true rfl) ?_
            refine s_ls (ls' := [some (.ref 941), some (.int (nI f)), some (.int (nI (i + 2))), some (.long ((nI n).toInt64)), none, some (.int (nI (i + 2)))]) rfl ?_
            refine s_ls (ls' := [some (.ref 941), some (.int (nI f)), some (.int (zoR (gu g f) n (i + 1))), some (.long ((nI n).toInt64)), none, some (.int (nI (i + 2)))]) (by rw [e1]) ?_
            refine s_iinc (r := nI (i + 1 + 2)) (zdk hX9_ownCycle 45 rfl) (Nat.le_of_ble_eq_true rfl) rfl ((nI_1 _).trans (congrArg nI (by omega))) ?_
            refine s_ls (ls' := [some (.ref 941), some (.int (nI f)), some (.int (zoR (gu g f) n (i + 1))), some (.long ((nI n).toInt64)), none, some (.int (nI (i + 1 + 2)))]) rfl ?_
            refine s_goto 13 (zdk hX9_ownCycle 46 rfl) (by decide) ?_
            exact ih (i + 1) (by omega) (by omega)
theorem c_X9_ownCycle (hl : l.stackTraces = false) {M : zMem} (hm : mSh M) {g : Nat → Int64} (hb : gBd g) {f : Nat} (hf : f < 20) {n : Nat} (hke : gf g f 4 = nI n) (hn24 : n ≤ 24) : zCm l G mX9_ownCycle 3 70 0 0 [.ref 941, .int (nI f)] (zsL M 942 g) (zD (some (.int (zoR (gu g f) n (zon n)))) (zsL M 942 g)) := by
  refine zCd.of (ls0 := [some (.ref 941), some (.int (nI f)), none, none, none, none]) (by decide +kernel) rfl hl rfl (Nat.le_of_ble_eq_true rfl) rfl ?_
  refine s_iconstv (v := (-1)) (zdk hX9_ownCycle 0 rfl) zc_iconst_m1 ?_
  refine s_istore_n (zdk hX9_ownCycle 1 rfl) (Nat.le_of_ble_eq_true rfl) ?_
  refine s_ls (ls' := [some (.ref 941), some (.int (nI f)), some (.int ((-1))), none, none, none]) rfl ?_
  refine s_aload_n (zdk hX9_ownCycle 2 rfl) rfl ?_
  refine s_iload_n (zdk hX9_ownCycle 3 rfl) rfl ?_
  refine s_iconstv (v := nI 4) (zdk hX9_ownCycle 4 rfl) zc_iconst_4 ?_
  refine s_callV0 (ci := 9) [.int (nI f), .int (nI 4)] (zdk hX9_ownCycle 5 rfl) cw_X9_211 (hm.1) (by decide) rfl rfl rfl (Nat.le_of_ble_eq_true rfl) (by decide) (c_X9_of hl (M := M) (g := g) hm (f := f) (k := 4) (by omega)) ?_
  refine s_topi (b := nI n) (hke) ?_
  refine s_i2l (zdk hX9_ownCycle 6 rfl) ?_
  refine s_lstore_n (zdk hX9_ownCycle 7 rfl) (Nat.le_of_ble_eq_true rfl) ?_
  refine s_ls (ls' := [some (.ref 941), some (.int (nI f)), some (.int ((-1))), some (.long ((nI n).toInt64)), none, none]) rfl ?_
  refine s_iconstv (v := nI 2) (zdk hX9_ownCycle 8 rfl) zc_iconst_2 ?_
  refine s_istore (zdk hX9_ownCycle 9 rfl) (Nat.le_of_ble_eq_true rfl) ?_
  refine s_ls (ls' := [some (.ref 941), some (.int (nI f)), some (.int ((-1))), some (.long ((nI n).toInt64)), none, some (.int (nI 2))]) rfl ?_
  exact w_X9_ownCycle_13 hl hm hb hf hke hn24 (zon n + 1) 0 (by omega) (by omega)
end

theorem zc_sipush_1027 : (Int16.ofInt 1027).toInt32 = nI 1027 := by decide
/-! ===== the reference: drop ===== -/
def oShF (g : Nat → Int64) (b i : Nat) : Nat → Int64 := fun k => if b ≤ k ∧ k < i then g (k + 51) else g k
theorem oShF_1 {g : Nat → Int64} {b i : Nat} (h : b ≤ i) : zwL (oShF g b i) i (g (i + 51)) = oShF g b (i + 1) := by
  funext k
  unfold zwL oShF
  by_cases q : k = i
  · rw [if_pos q, if_pos (by omega), q]
  · rw [if_neg q]
    by_cases q2 : b ≤ k ∧ k < i
    · rw [if_pos q2, if_pos (by omega)]
    · rw [if_neg q2, if_neg (by omega)]
theorem oShF_0 {g : Nat → Int64} {b : Nat} : oShF g b b = g := by funext k; unfold oShF; rw [if_neg (by omega)]
theorem oShF_u {g : Nat → Int64} {b i k : Nat} (h : k < b ∨ i ≤ k) : oShF g b i k = g k := if_neg (by omega)
def oCpW (g : Nat → Int64) (n w i : Nat) : Nat → Int64 := fun k => if 1078 + 5 * n ≤ k ∧ k < 1078 + 5 * n + i then g (1078 + 5 * w + (k - (1078 + 5 * n))) else g k
theorem oCpW_1 {g : Nat → Int64} {n w i : Nat} : zwL (oCpW g n w i) (1078 + 5 * n + i) (g (1078 + 5 * w + i)) = oCpW g n w (i + 1) := by
  funext k
  unfold zwL oCpW
  by_cases q : k = 1078 + 5 * n + i
  · rw [if_pos q, if_pos (by omega), q, Nat.add_sub_cancel_left]
  · rw [if_neg q]
    by_cases q2 : 1078 + 5 * n ≤ k ∧ k < 1078 + 5 * n + i
    · rw [if_pos q2, if_pos (by omega)]
    · rw [if_neg q2, if_neg (by omega)]
theorem oCpW_0 {g : Nat → Int64} {n w : Nat} : oCpW g n w 0 = g := by funext k; unfold oCpW; rw [if_neg (by omega)]
theorem oCpW_u {g : Nat → Int64} {n w i k : Nat} (h : k < 1078 + 5 * n ∨ 1078 + 5 * n + i ≤ k) : oCpW g n w i k = g k := if_neg (by omega)
/-- behind w moves, of which n stayed -/
def rDi (g : Nat → Int64) (f n w : Nat) (G : Nat → Int64) : Prop :=
  n ≤ w ∧ w ≤ gN g 5 ∧ (∀ k, k < 58 → k ≠ 3 → G k = g k) ∧ its G 3 = nI (gN g 3 - 1) ∧ (∀ f', f' < gN g 3 - 1 → ∀ k, k < 51 → G (58 + 51 * f' + k) = g (58 + 51 * (if f' < f then f' else f' + 1) + k)) ∧ (∀ k, 1378 ≤ k → G k = g k)
  ∧ (∀ w', w ≤ w' → w' < 60 → ∀ k, k < 5 → G (1078 + 5 * w' + k) = g (1078 + 5 * w' + k)) ∧ gIp G ∧ (List.range n).map (grow G) = (List.range w).flatMap (fun w => zphi (nI f) (grow g w))
theorem rDi.skip {g G : Nat → Int64} {f n w : Nat} (h : rDi g f n w G) (hw : w < gN g 5) (he : gm g w 0 = nI f) : rDi g f n (w + 1) G := by
  obtain ⟨a1, a2, a3, a4, a5, a6, a7, a8, a9⟩ := h
  refine ⟨by omega, by omega, a3, a4, a5, a6, fun w' q1 q2 => a7 w' (by omega) q2, a8, ?_⟩
  rw [a9, List.range_succ, List.flatMap_append]
  have : zphi (nI f) (grow g w) = [] := if_pos he
  simp [this]
theorem grow_e {g G : Nat → Int64} {w n : Nat} (h : ∀ k, k < 5 → G (1078 + 5 * n + k) = g (1078 + 5 * w + k)) : grow G n = grow g w := by
  funext k
  unfold grow gm
  by_cases q : k < 5
  · rw [if_pos q, if_pos q]; exact congrArg Int64.toInt32 (h k q)
  · rw [if_neg q, if_neg q]
theorem rDi.step {g G : Nat → Int64} {f n w : Nat} {d : Int64} (h : rDi g f n w G) (h60 : gN g 5 ≤ 60) (h20 : gN g 3 ≤ 20) (hw : w < gN g 5) (hne : ¬ gm g w 0 = nI f) (hp : gIp g)
    (hd : (g (1078 + 5 * w + 0) - d) = (if gm g w 0 ≤ nI f then gm g w 0 else gm g w 0 - nI 1).toInt64) : rDi g f (n + 1) (w + 1) (zwL (oCpW G n w 5) (1078 + 5 * n) (g (1078 + 5 * w + 0) - d)) := by
  obtain ⟨a1, a2, a3, a4, a5, a6, a7, a8, a9⟩ := h
  have hk0 : ∀ k, k < 5 → k ≠ 0 → zwL (oCpW G n w 5) (1078 + 5 * n) (g (1078 + 5 * w + 0) - d) (1078 + 5 * n + k) = g (1078 + 5 * w + k) := fun k q q2 => by
    rw [zwL_n (by omega)]
    unfold oCpW
    rw [if_pos (by omega), Nat.add_sub_cancel_left]
    exact a7 w (Nat.le_refl w) (by omega) k q
  have hlo : ∀ k, (k < 1078 + 5 * n ∨ 1078 + 5 * n + 5 ≤ k) → zwL (oCpW G n w 5) (1078 + 5 * n) (g (1078 + 5 * w + 0) - d) k = G k := fun k q => by rw [zwL_n (by omega), oCpW_u (by omega)]
  refine ⟨by omega, by omega, fun k q q3 => by rw [hlo k (by omega)]; exact a3 k q q3, by rw [its_eq (hlo 3 (by omega))]; exact a4, fun f' q k q2 => ?_, fun k q => by rw [hlo k (by omega)]; exact a6 k q, fun w' q1 q2 k q => by rw [hlo _ (by omega)]; exact a7 w' (by omega) q2 k q, fun k q q2 => ?_, ?_⟩
  · rw [hlo _ (by omega)]; exact a5 f' q k q2
  · by_cases c : k = 1078 + 5 * n
    · subst c
      unfold its
      rw [zwL_e, hd, i64]
    · by_cases c2 : 1078 + 5 * n ≤ k ∧ k < 1078 + 5 * n + 5
      · have e := hk0 (k - (1078 + 5 * n)) (by omega) (by omega)
        rw [show 1078 + 5 * n + (k - (1078 + 5 * n)) = k by omega] at e
        unfold its
        rw [e]
        exact hp _ (by omega) (fun f hf => by omega)
      · rw [its_eq (hlo k (by omega)), hlo k (by omega)]
        exact a8 k q q2
  · rw [List.range_succ, List.map_append, List.range_succ (n := w), List.flatMap_append, ← a9]
    congr 1
    · refine List.map_congr_left fun j hj => grow_e fun k q => hlo _ (by have := List.mem_range.mp hj; omega)
    · simp only [List.map_cons, List.map_nil, List.flatMap_cons, List.flatMap_nil, List.append_nil]
      have e0 : gm (zwL (oCpW G n w 5) (1078 + 5 * n) (g (1078 + 5 * w + 0) - d)) n 0 = (if gm g w 0 ≤ nI f then gm g w 0 else gm g w 0 - nI 1) := by
        unfold gm its
        rw [show 1078 + 5 * n + 0 = 1078 + 5 * n from rfl, zwL_e, hd, i64]
        rfl
      unfold zphi
      rw [if_neg (show ¬ grow g w 0 = nI f from hne)]
      by_cases c : gm g w 0 ≤ nI f
      · rw [if_pos (show grow g w 0 ≤ nI f from c)]
        rw [if_pos c] at e0
        congr 1
        funext k
        by_cases q : k = 0
        · rw [q]; exact e0
        · unfold grow
          by_cases q2 : k < 5
          · rw [if_pos q2, if_pos q2]; exact congrArg Int64.toInt32 (hk0 k q2 q)
          · rw [if_neg q2, if_neg q2]
      · rw [if_neg (show ¬ grow g w 0 ≤ nI f from c)]
        rw [if_neg c] at e0
        congr 1
        funext k
        by_cases q : k = 0
        · rw [q, if_pos rfl]; exact e0
        · rw [if_neg q]
          unfold grow
          by_cases q2 : k < 5
          · rw [if_pos q2, if_pos q2]; exact congrArg Int64.toInt32 (hk0 k q2 q)
          · rw [if_neg q2, if_neg q2]
theorem i64_inj {x y : Int32} (h : x.toInt64 = y.toInt64) : x = y := by
  have := congrArg Int64.toInt32 h
  rwa [i64, i64] at this
theorem i64_le {x y : Int32} : x.toInt64 ≤ y.toInt64 ↔ x ≤ y := by rw [Int64.le_iff_toInt_le, Int32.le_iff_toInt_le, Int32.toInt_toInt64, Int32.toInt_toInt64]
section
variable {l : Launch} {G : zG}
theorem c_X9_drop_x (hl : l.stackTraces = false) {M : zMem} (hm : mSh M) {g : Nat → Int64} (hb : gBd g) (f : Int32) (hx : ¬ inN f (gN g 3)) : zCm l G mX9_drop 3 70 0 0 [.ref 941, .int (f)] (zsL M 942 g) (zD (some (.int (nI 0))) (zsL (zsI M 941 6 (nI (1))) 942 g)) := by
  refine zCd.of (ls0 := [some (.ref 941), some (.int (f)), none, none, none, none, none]) (by decide +kernel) rfl hl rfl (Nat.le_of_ble_eq_true rfl) rfl ?_
  have hn2 := hb.2.2.1.2
  have ht4 := hb.2.1.2
  have hcy := hb.1.2.2
  have hpe := hb.2.2.2.1.2
  refine s_aload_n (zdk hX9_drop_0 0 rfl) rfl ?_
  refine s_aload_n (zdk hX9_drop_0 1 rfl) rfl ?_
  refine s_iload_n (zdk hX9_drop_0 2 rfl) rfl ?_
  refine s_callV0 (ci := 9) [.int (f)] (zdk hX9_drop_0 3 rfl) cw_X9_254 (hm.1) (by decide) rfl rfl rfl (Nat.le_of_ble_eq_true rfl) (by decide) (c_X9_isFile hl (M := M) (g := g) hm hb (f)) ?_
  refine s_if_eq 13 (zdk hX9_drop_0 4 rfl) (by decide) (fun c6 => ?_) (fun c6 => ?_)
  · have b6 : ¬ (inN (f) (gN g 3)) := b01_eq c6
    refine s_iconstv (v := nI 1) (zdk hX9_drop_0 7 rfl) zc_iconst_1 ?_
    refine s_putI (zdk hX9_drop_0 8 rfl) fw_X9_69 rfl pw_9_6 (hm.1) ?_
    refine s_mem (M' := (zsL (zsI M 941 6 (nI 1)) 942 g)) rfl ?_
    refine s_aload_n (zdk hX9_drop_0 9 rfl) rfl ?_
    refine s_getI (zdk hX9_drop_0 10 rfl) fw_X9_69 rfl (hm.1) ?_
    refine s_topi (b := nI 1) ((congrFun (zI_Ie (M := M) (a := 941) (k := 6) (v := (nI 1))) 6).trans zw1_e) ?_
    refine s_if_le 26 (zdk hX9_drop_0 11 rfl) (by decide) (fun c21 => ?_) (fun c21 => ?_)
    · exact absurd c21 (by decide)
    · refine s_iconstv (v := nI 0) (zdk hX9_drop_0 12 rfl) zc_iconst_0 ?_
      refine s_ireturn (zdk hX9_drop_0 13 rfl) rfl rfl ?_
      exact ⟨rfl, rfl⟩
  · have b6 : inN (f) (gN g 3) := b01_ne c6
    refine s_iconstv (v := nI 0) (zdk hX9_drop_0 5 rfl) zc_iconst_0 ?_
    refine s_goto 14 (zdk hX9_drop_0 6 rfl) (by decide) ?_
    refine s_putI (zdk hX9_drop_0 8 rfl) fw_X9_69 rfl pw_9_6 (hm.1) ?_
    refine s_mem (M' := (zsL (zsI M 941 6 (nI 0)) 942 g)) rfl ?_
    refine s_aload_n (zdk hX9_drop_0 9 rfl) rfl ?_
    refine s_getI (zdk hX9_drop_0 10 rfl) fw_X9_69 rfl (hm.1) ?_
    refine s_topi (b := nI 0) ((congrFun (zI_Ie (M := M) (a := 941) (k := 6) (v := (nI 0))) 6).trans zw1_e) ?_
    refine s_if_le 26 (zdk hX9_drop_0 11 rfl) (by decide) (fun c21 => ?_) (fun c21 => ?_)
    · exact absurd b6 hx
    · exact absurd (by decide) c21
theorem w_X9_drop_121 (hl : l.stackTraces = false) {M : zMem} (hm : mSh M) {g : Nat → Int64} (hb : gBd g) {c : Nat} (hc : zI M 941 5 = nI c) (hc8 : c ≤ 8) (hip : gIp g) {f : Nat} (hf : f < gN g 3) {n w : Nat} (hnw : n ≤ w) (hw : w < 60) (g2 : Nat → Int64) (W9 : Int64) {Q : zOut → zMem → Prop} (kk : zS l G mX9_drop 3 70 0 0 163 [some (.ref 941), some (.int (nI f)), some (.int (nI n)), some (.int (nI w)), some (.long (W9)), none, some (.int (nI 5))] [] (zsL (KP M c g) 942 (oCpW g2 n w 5)) Q) : ∀ (k : Nat) (i : Nat), i ≤ 5 → 5 - i < k → zS l G mX9_drop 3 70 0 0 121 [some (.ref 941), some (.int (nI f)), some (.int (nI n)), some (.int (nI w)), some (.long (W9)), none, some (.int (nI i))] [] (zsL (KP M c g) 942 (oCpW g2 n w i)) Q := by
  intro k
  induction k with
  | zero => intros; omega
  | succ k ih =>
    intro i hi hk
    refine s_iload (zdk hX9_drop_1 13 rfl) rfl ?_
    refine s_iconstv (v := nI 5) (zdk hX9_drop_1 14 rfl) zc_iconst_5 ?_
    refine s_icmp_ge 163 (zdk hX9_drop_1 15 rfl) (by decide) (fun c124 => ?_) (fun c124 => ?_)
    · have n124 : 5 ≤ i := nle c124 (by omega) (by omega)
      obtain rfl : i = 5 := by omega
      exact kk
    · have n124 : i < 5 := nlt c124 (by omega) (by omega)
      refine s_aload_n (zdk hX9_drop_1 16 rfl) rfl ?_
      refine s_getR (zdk hX9_drop_1 17 rfl) fw_X9_7 rfl (hm.1) (show _ = some 942 from (hm.r (i := 0) rfl).1) ?_
      refine s_sipushv (v := nI 1078) (zdk hX9_drop_1 18 rfl) zc_sipush_1078 ?_
      refine s_iconstv (v := nI 5) (zdk hX9_drop_1 19 rfl) zc_iconst_5 ?_
      refine s_iload_n (zdk hX9_drop_1 20 rfl) rfl ?_
      refine s_imul (zdk hX9_drop_1 21 rfl) ?_
      refine s_topi (b := nI (5 * n)) (pk_mul _ _) ?_
      refine s_iadd (zdk hX9_drop_1 22 rfl) ?_
      refine s_topi (b := nI (1078 + 5 * n)) (nI_add _ _) ?_
      refine s_iload (zdk hX9_drop_1 23 rfl) rfl ?_
      refine s_iadd (zdk hX9_drop_1 24 rfl) ?_
      refine s_topi (b := nI (1078 + 5 * n + i)) (nI_add _ _) ?_
      refine s_aload_n (zdk hX9_drop_1 25 rfl) rfl ?_
      refine s_getR (zdk hX9_drop_1 26 rfl) fw_X9_7 rfl (hm.1) (show _ = some 942 from (hm.r (i := 0) rfl).1) ?_
      refine s_sipushv (v := nI 1078) (zdk hX9_drop_1 27 rfl) zc_sipush_1078 ?_
      refine s_iconstv (v := nI 5) (zdk hX9_drop_1 28 rfl) zc_iconst_5 ?_
      refine s_iload_n (zdk hX9_drop_1 29 rfl) rfl ?_
      refine s_imul (zdk hX9_drop_1 30 rfl) ?_
      refine s_topi (b := nI (5 * w)) (pk_mul _ _) ?_
      refine s_iadd (zdk hX9_drop_1 31 rfl) ?_
      refine s_topi (b := nI (1078 + 5 * w)) (nI_add _ _) ?_
      refine s_iload (zdk hX9_drop_1 32 rfl) rfl ?_
      refine s_iadd (zdk hX9_drop_1 33 rfl) ?_
      refine s_topi (b := nI (1078 + 5 * w + i)) (nI_add _ _) ?_
      refine s_laloadN (N := 1390) (j := 1078 + 5 * w + i) (zdk hX9_drop_1 34 rfl) ((hm.r (i := 0) rfl).2.1) ((hm.r (i := 0) rfl).2.2) (by omega) (by decide) ?_
      refine s_topl (b := (oCpW g2 n w i) (1078 + 5 * w + i)) (congrFun zJ_Le _) ?_
      refine s_topl (b := g2 (1078 + 5 * w + i)) (oCpW_u (by omega)) ?_
      refine s_lastoreN (N := 1390) (j := 1078 + 5 * n + i) (zdk hX9_drop_1 35 rfl) ((hm.r (i := 0) rfl).2.1) ((hm.r (i := 0) rfl).2.2) (by omega) (by decide) ?_
      refine s_mem (M' := (zsL (KP M c g) 942 (zwL (oCpW g2 n w i) (1078 + 5 * n + i) (g2 (1078 + 5 * w + i))))) (zsL_1 _ _ _ _ _) ?_
      refine s_mem (M' := (zsL (KP M c g) 942 (oCpW g2 n w (i + 1)))) (zsL_g oCpW_1) ?_
      refine s_iinc (r := nI (i + 1)) (zdk hX9_drop_1 36 rfl) (Nat.le_of_ble_eq_true rfl) rfl (nI_1 _) ?_
      refine s_ls (ls' := [some (.ref 941), some (.int (nI f)), some (.int (nI n)), some (.int (nI w)), some (.long (W9)), none, some (.int (nI (i + 1)))]) rfl ?_
      refine s_goto 121 (zdk hX9_drop_1 37 rfl) (by decide) ?_
      exact ih (i + 1) (by omega) (by omega)
theorem w_X9_drop_84 (hl : l.stackTraces = false) {M : zMem} (hm : mSh M) {g : Nat → Int64} (hb : gBd g) {c : Nat} (hc : zI M 941 5 = nI c) (hc8 : c ≤ 8) (hip : gIp g) {f : Nat} (hf : f < gN g 3) : ∀ (k : Nat) (n w : Nat) (g2 : Nat → Int64) (x4 x6 : Option Value), rDi g f n w g2 → gN g 5 - w < k → zS l G mX9_drop 3 70 0 0 84 [some (.ref 941), some (.int (nI f)), some (.int (nI n)), some (.int (nI w)), x4, none, x6] [] (zsL (KP M c g) 942 g2) (fun o M9 => o = .inl (some (.int (nI (gN g 3 - 1)))) ∧ ∃ g9, M9 = zsL (KP M c g) 942 g9 ∧ zDr g f g9 ∧ gIp g9) := by
  intro k
  induction k with
  | zero => intros; omega
  | succ k ih =>
    intro n w g2 x4 x6 hR hk9
    have h20 := hb.2.2.1.2
    have hm60 := hb.2.2.2.2.1.2
    have hnw := hR.1
    have hwm := hR.2.1
    refine s_iload_n (zdk hX9_drop_0 51 rfl) rfl ?_
    refine s_aload_n (zdk hX9_drop_0 52 rfl) rfl ?_
    refine s_iconstv (v := nI 5) (zdk hX9_drop_0 53 rfl) zc_iconst_5 ?_
    refine s_callV0 (ci := 9) [.int (nI 5)] (zdk hX9_drop_0 54 rfl) cw_X9_87 (hm.1) (by decide) rfl rfl rfl (Nat.le_of_ble_eq_true rfl) (by decide) (c_X9_its hl (M := (KP M c g)) (g := g2) hm (k := 5) (by omega)) ?_
    refine s_topi (b := nI (gN g 5)) ((its_eq (hR.2.2.1 5 (by omega) (by omega))).trans hb.h5) ?_
    refine s_icmp_ge 200 (zdk hX9_drop_0 55 rfl) (by decide) (fun c90 => ?_) (fun c90 => ?_)
    · have n90 : gN g 5 ≤ w := nle c90 (by omega) (by omega)
      have hwe : w = gN g 5 := by omega
      subst hwe
      refine s_aload_n (zdk hX9_drop_2 0 rfl) rfl ?_
      refine s_getR (zdk hX9_drop_2 1 rfl) fw_X9_7 rfl (hm.1) (show _ = some 942 from (hm.r (i := 0) rfl).1) ?_
      refine s_iconstv (v := nI 5) (zdk hX9_drop_2 2 rfl) zc_iconst_5 ?_
      refine s_iload_n (zdk hX9_drop_2 3 rfl) rfl ?_
      refine s_i2l (zdk hX9_drop_2 4 rfl) ?_
      refine s_lastoreN (N := 1390) (j := 5) (zdk hX9_drop_2 5 rfl) ((hm.r (i := 0) rfl).2.1) ((hm.r (i := 0) rfl).2.2) (by omega) (by decide) ?_
      refine s_mem (M' := (zsL (KP M c g) 942 (zwL g2 5 ((nI n).toInt64)))) (zsL_1 _ _ _ _ _) ?_
      refine s_aload_n (zdk hX9_drop_2 6 rfl) rfl ?_
      have hz : zDr g f (zwL g2 5 (nI n).toInt64) := ⟨fun k q1 q2 q3 => (zwL_n q3).trans (hR.2.2.1 k q1 q2), (its_n (by decide)).trans hR.2.2.2.1, fun f1 q1 k q2 => (zwL_n (by omega)).trans (hR.2.2.2.2.1 f1 q1 k q2), fun k q => (zwL_n (by omega)).trans (hR.2.2.2.2.2.1 k q), n, by omega, its_e.trans (i64 _), by
        rw [← hR.2.2.2.2.2.2.2.2]
        refine List.map_congr_left fun j hj => grow_e fun k q => zwL_n (by omega)⟩
      have hbz : gBd (zwL g2 5 (nI n).toInt64) := hb.drop hf hz
      have ez : gN (zwL g2 5 (nI n).toInt64) 3 = gN g 3 - 1 := gN_of hz.2.1 (by omega)
      have hiz : gIp (zwL g2 5 (nI n).toInt64) := fun k q1 q2 => by
        by_cases q : k = 5
        · rw [q, zwL_e, its_e, i64]
        · rw [its_n q, zwL_n q]; exact hR.2.2.2.2.2.2.2.1 k q1 q2
      refine s_callV0 (ci := 9) [] (zdk hX9_drop_2 7 rfl) cw_X9_180 (hm.1) (by decide) rfl rfl rfl (Nat.le_of_ble_eq_true rfl) (by decide) (c_X9_files hl (M := (KP M c g)) (g := (zwL g2 5 (nI n).toInt64)) hm hbz) ?_
      refine s_ireturn (zdk hX9_drop_2 8 rfl) rfl rfl ?_
      rw [ez]
      exact ⟨rfl, (zwL g2 5 (nI n).toInt64), rfl, hz, hiz⟩
    · have n90 : w < gN g 5 := nlt c90 (by omega) (by omega)
      refine s_aload_n (zdk hX9_drop_0 56 rfl) rfl ?_
      refine s_getR (zdk hX9_drop_0 57 rfl) fw_X9_7 rfl (hm.1) (show _ = some 942 from (hm.r (i := 0) rfl).1) ?_
      refine s_sipushv (v := nI 1078) (zdk hX9_drop_0 58 rfl) zc_sipush_1078 ?_
      refine s_iconstv (v := nI 5) (zdk hX9_drop_0 59 rfl) zc_iconst_5 ?_
      refine s_iload_n (zdk hX9_drop_1 0 rfl) rfl ?_
      refine s_imul (zdk hX9_drop_1 1 rfl) ?_
      refine s_topi (b := nI (5 * w)) (pk_mul _ _) ?_
      refine s_iadd (zdk hX9_drop_1 2 rfl) ?_
      refine s_topi (b := nI (1078 + 5 * w)) (nI_add _ _) ?_
      refine s_laloadN (N := 1390) (j := 1078 + 5 * w) (zdk hX9_drop_1 3 rfl) ((hm.r (i := 0) rfl).2.1) ((hm.r (i := 0) rfl).2.2) (by omega) (by decide) ?_
      refine s_topl (b := g2 (1078 + 5 * w)) (congrFun zJ_Le _) ?_
      refine s_topl (b := (gm g w 0).toInt64) ((hR.2.2.2.2.2.2.1 w (Nat.le_refl w) (by omega) 0 (by omega)).trans (hip _ (by omega) (fun f hf => by omega))) ?_
      refine s_lstore (zdk hX9_drop_1 4 rfl) (Nat.le_of_ble_eq_true rfl) ?_
      refine s_ls (ls' := [some (.ref 941), some (.int (nI f)), some (.int (nI n)), some (.int (nI w)), some (.long ((gm g w 0).toInt64)), none, x6]) rfl ?_
      refine s_lload (zdk hX9_drop_1 5 rfl) rfl ?_
      refine s_iload_n (zdk hX9_drop_1 6 rfl) rfl ?_
      refine s_i2l (zdk hX9_drop_1 7 rfl) ?_
      refine s_lcmp (zdk hX9_drop_1 8 rfl) ?_
      refine s_if_ne 118 (zdk hX9_drop_1 9 rfl) (by decide) (fun c112 => ?_) (fun c112 => ?_)
      · have hne : ¬ gm g w 0 = nI f := fun q => by
          rw [q] at c112
          exact c112 (by unfold lg_cmp; rw [if_neg (fun z => by rw [gt_iff_lt, Int64.lt_iff_toInt_lt] at z; omega), if_pos rfl])
        refine s_iconstv (v := nI 0) (zdk hX9_drop_1 11 rfl) zc_iconst_0 ?_
        refine s_istore (zdk hX9_drop_1 12 rfl) (Nat.le_of_ble_eq_true rfl) ?_
        refine s_ls (ls' := [some (.ref 941), some (.int (nI f)), some (.int (nI n)), some (.int (nI w)), some (.long ((gm g w 0).toInt64)), none, some (.int (nI 0))]) rfl ?_
        refine s_mem (M' := (zsL (KP M c g) 942 (oCpW g2 n w 0))) (zsL_g oCpW_0.symm) ?_
        refine w_X9_drop_121 hl hm hb hc hc8 hip hf hR.1 (by omega) g2 ((gm g w 0).toInt64) ?_ 6 0 (by omega) (by omega)
        have hg0 : g (1078 + 5 * w + 0) = (gm g w 0).toInt64 := hip _ (by omega) (fun f hf => by omega)
        have hz0 : oCpW g2 n w 5 (1078 + 5 * n) = g (1078 + 5 * w + 0) := by unfold oCpW; rw [if_pos (by omega), Nat.sub_self]; exact hR.2.2.2.2.2.2.1 w (Nat.le_refl w) (by omega) 0 (by omega)
        refine s_aload_n (zdk hX9_drop_1 38 rfl) rfl ?_
        refine s_getR (zdk hX9_drop_1 39 rfl) fw_X9_7 rfl (hm.1) (show _ = some 942 from (hm.r (i := 0) rfl).1) ?_
        refine s_sipushv (v := nI 1078) (zdk hX9_drop_1 40 rfl) zc_sipush_1078 ?_
        refine s_iconstv (v := nI 5) (zdk hX9_drop_1 41 rfl) zc_iconst_5 ?_
        refine s_iload_n (zdk hX9_drop_1 42 rfl) rfl ?_
        refine s_imul (zdk hX9_drop_1 43 rfl) ?_
        refine s_topi (b := nI (5 * n)) (pk_mul _ _) ?_
        refine s_iadd (zdk hX9_drop_1 44 rfl) ?_
        refine s_topi (b := nI (1078 + 5 * n)) (nI_add _ _) ?_
        refine s_dup2ir (zdk hX9_drop_1 45 rfl) ?_
        refine s_laloadN (N := 1390) (j := 1078 + 5 * n) (zdk hX9_drop_1 46 rfl) ((hm.r (i := 0) rfl).2.1) ((hm.r (i := 0) rfl).2.2) (by omega) (by decide) ?_
        refine s_topl (b := (oCpW g2 n w 5) (1078 + 5 * n)) (congrFun zJ_Le _) ?_
        refine s_lload (zdk hX9_drop_1 47 rfl) rfl ?_
        refine s_iload_n (zdk hX9_drop_1 48 rfl) rfl ?_
        refine s_i2l (zdk hX9_drop_1 49 rfl) ?_
        refine s_lcmp (zdk hX9_drop_1 50 rfl) ?_
        refine s_if_le 188 (zdk hX9_drop_1 51 rfl) (by decide) (fun c181 => ?_) (fun c181 => ?_)
        · have hle : gm g w 0 ≤ nI f := i64_le.mp (lcmp_le c181)
          have hD : g (1078 + 5 * w + 0) - lN 0 = (if gm g w 0 ≤ nI f then gm g w 0 else gm g w 0 - nI 1).toInt64 := by rw [if_pos hle, hg0]; exact Int64.sub_zero _
          refine s_lconstv (v := lN 0) (zdk hX9_drop_1 54 rfl) rfl ?_
          refine s_lsub (zdk hX9_drop_1 55 rfl) ?_
          refine s_lastoreN (N := 1390) (j := 1078 + 5 * n) (zdk hX9_drop_1 56 rfl) ((hm.r (i := 0) rfl).2.1) ((hm.r (i := 0) rfl).2.2) (by omega) (by decide) ?_
          refine s_mem (M' := (zsL (KP M c g) 942 (zwL (oCpW g2 n w 5) (1078 + 5 * n) (((oCpW g2 n w 5) (1078 + 5 * n)) - (lN 0))))) (zsL_1 _ _ _ _ _) ?_
          refine s_mem (M' := (zsL (KP M c g) 942 (zwL (oCpW g2 n w 5) (1078 + 5 * n) (g (1078 + 5 * w + 0) - lN 0)))) (zsL_g (by rw [show oCpW g2 n w 5 (1078 + 5 * n) = g (1078 + 5 * w + 0) from hz0])) ?_
          have hR2 : rDi g f (n + 1) (w + 1) (zwL (oCpW g2 n w 5) (1078 + 5 * n) (g (1078 + 5 * w + 0) - lN 0)) := hR.step hm60 h20 n90 hne hip (hD)
          refine s_iinc (r := nI (n + 1)) (zdk hX9_drop_1 57 rfl) (Nat.le_of_ble_eq_true rfl) rfl (nI_1 _) ?_
          refine s_ls (ls' := [some (.ref 941), some (.int (nI f)), some (.int (nI (n + 1))), some (.int (nI w)), some (.long ((gm g w 0).toInt64)), none, some (.int (nI 5))]) rfl ?_
          refine s_iinc (r := nI (w + 1)) (zdk hX9_drop_1 58 rfl) (Nat.le_of_ble_eq_true rfl) rfl (nI_1 _) ?_
          refine s_ls (ls' := [some (.ref 941), some (.int (nI f)), some (.int (nI (n + 1))), some (.int (nI (w + 1))), some (.long ((gm g w 0).toInt64)), none, some (.int (nI 5))]) rfl ?_
          refine s_goto 84 (zdk hX9_drop_1 59 rfl) (by decide) ?_
          exact ih _ _ _ _ _ hR2 (by omega)
        · have hgt : ¬ gm g w 0 ≤ nI f := fun q => Int64.lt_irrefl (Int64.lt_of_lt_of_le (lcmp_gt c181) (i64_le.mpr q))
          have hD : g (1078 + 5 * w + 0) - lN 1 = (if gm g w 0 ≤ nI f then gm g w 0 else gm g w 0 - nI 1).toInt64 := by
            rw [if_neg hgt, hg0]
            obtain ⟨hma, hmb⟩ := (hb.2.2.2.2.2.2 w n90).1
            rw [hma] at hgt ⊢
            have hpos : 0 < gN g (1078 + 5 * w + 0) := by
              rcases Nat.eq_zero_or_pos (gN g (1078 + 5 * w + 0)) with q | q
              · rw [q] at hgt; exact absurd (nI_le (Nat.zero_le f) (by omega)) hgt
              · exact q
            rw [dec64 (by omega) hpos, pk_sub hpos]
          refine s_lconstv (v := lN 1) (zdk hX9_drop_1 52 rfl) rfl ?_
          refine s_goto 189 (zdk hX9_drop_1 53 rfl) (by decide) ?_
          refine s_lsub (zdk hX9_drop_1 55 rfl) ?_
          refine s_lastoreN (N := 1390) (j := 1078 + 5 * n) (zdk hX9_drop_1 56 rfl) ((hm.r (i := 0) rfl).2.1) ((hm.r (i := 0) rfl).2.2) (by omega) (by decide) ?_
          refine s_mem (M' := (zsL (KP M c g) 942 (zwL (oCpW g2 n w 5) (1078 + 5 * n) (((oCpW g2 n w 5) (1078 + 5 * n)) - (lN 1))))) (zsL_1 _ _ _ _ _) ?_
          refine s_mem (M' := (zsL (KP M c g) 942 (zwL (oCpW g2 n w 5) (1078 + 5 * n) (g (1078 + 5 * w + 0) - lN 1)))) (zsL_g (by rw [show oCpW g2 n w 5 (1078 + 5 * n) = g (1078 + 5 * w + 0) from hz0])) ?_
          have hR2 : rDi g f (n + 1) (w + 1) (zwL (oCpW g2 n w 5) (1078 + 5 * n) (g (1078 + 5 * w + 0) - lN 1)) := hR.step hm60 h20 n90 hne hip (hD)
          refine s_iinc (r := nI (n + 1)) (zdk hX9_drop_1 57 rfl) (Nat.le_of_ble_eq_true rfl) rfl (nI_1 _) ?_
          refine s_ls (ls' := [some (.ref 941), some (.int (nI f)), some (.int (nI (n + 1))), some (.int (nI w)), some (.long ((gm g w 0).toInt64)), none, some (.int (nI 5))]) rfl ?_
          refine s_iinc (r := nI (w + 1)) (zdk hX9_drop_1 58 rfl) (Nat.le_of_ble_eq_true rfl) rfl (nI_1 _) ?_
          refine s_ls (ls' := [some (.ref 941), some (.int (nI f)), some (.int (nI (n + 1))), some (.int (nI (w + 1))), some (.long ((gm g w 0).toInt64)), none, some (.int (nI 5))]) rfl ?_
          refine s_goto 84 (zdk hX9_drop_1 59 rfl) (by decide) ?_
          exact ih _ _ _ _ _ hR2 (by omega)
      · have heq : gm g w 0 = nI f := i64_inj (lcmp0 c112)
        have hR2 := hR.skip (by omega) heq
        refine s_goto 194 (zdk hX9_drop_1 10 rfl) (by decide) ?_
        refine s_iinc (r := nI (w + 1)) (zdk hX9_drop_1 58 rfl) (Nat.le_of_ble_eq_true rfl) rfl (nI_1 _) ?_
        refine s_ls (ls' := [some (.ref 941), some (.int (nI f)), some (.int (nI n)), some (.int (nI (w + 1))), some (.long ((gm g w 0).toInt64)), none, x6]) rfl ?_
        refine s_goto 84 (zdk hX9_drop_1 59 rfl) (by decide) ?_
        exact ih _ _ _ _ _ hR2 (by omega)
theorem w_X9_drop_42 (hl : l.stackTraces = false) {M : zMem} (hm : mSh M) {g : Nat → Int64} (hb : gBd g) {c : Nat} (hc : zI M 941 5 = nI c) (hc8 : c ≤ 8) (hip : gIp g) {f : Nat} (hf : f < gN g 3) : ∀ (k : Nat) (i : Nat), 58 + 51 * f ≤ i → i ≤ 1027 → 1027 - i < k → zS l G mX9_drop 3 70 0 0 42 [some (.ref 941), some (.int (nI f)), some (.int (nI i)), none, none, none, none] [] (zsL (KP M c g) 942 (oShF g (58 + 51 * f) i)) (fun o M9 => o = .inl (some (.int (nI (gN g 3 - 1)))) ∧ ∃ g9, M9 = zsL (KP M c g) 942 g9 ∧ zDr g f g9 ∧ gIp g9) := by
  intro k
  induction k with
  | zero => intros; omega
  | succ k ih =>
    intro i h1 hi hk9
    have h20 := hb.2.2.1.2
    refine s_iload_n (zdk hX9_drop_0 24 rfl) rfl ?_
    refine s_sipushv (v := nI 1027) (zdk hX9_drop_0 25 rfl) zc_sipush_1027 ?_
    refine s_icmp_ge 70 (zdk hX9_drop_0 26 rfl) (by decide) (fun c46 => ?_) (fun c46 => ?_)
    · have n46 : 1027 ≤ i := nle c46 (by omega) (by omega)
      have hie : i = 1027 := by omega
      subst hie
      refine s_aload_n (zdk hX9_drop_0 39 rfl) rfl ?_
      refine s_getR (zdk hX9_drop_0 40 rfl) fw_X9_7 rfl (hm.1) (show _ = some 942 from (hm.r (i := 0) rfl).1) ?_
      refine s_iconstv (v := nI 3) (zdk hX9_drop_0 41 rfl) zc_iconst_3 ?_
      refine s_dup2ir (zdk hX9_drop_0 42 rfl) ?_
      refine s_laloadN (N := 1390) (j := 3) (zdk hX9_drop_0 43 rfl) ((hm.r (i := 0) rfl).2.1) ((hm.r (i := 0) rfl).2.2) (by omega) (by decide) ?_
      refine s_topl (b := (oShF g (58 + 51 * f) 1027) 3) (congrFun zJ_Le _) ?_
      refine s_lconstv (v := lN 1) (zdk hX9_drop_0 44 rfl) rfl ?_
      refine s_lsub (zdk hX9_drop_0 45 rfl) ?_
      refine s_topl (b := (nI (gN g 3 - 1)).toInt64) ((congrArg (fun q : Int64 => q - lN 1) ((oShF_u (by omega)).trans ((hip.h (k := 3) (by omega)).trans (congrArg Int32.toInt64 hb.h3)))).trans (dec64 (by omega) (by omega))) ?_
      refine s_lastoreN (N := 1390) (j := 3) (zdk hX9_drop_0 46 rfl) ((hm.r (i := 0) rfl).2.1) ((hm.r (i := 0) rfl).2.2) (by omega) (by decide) ?_
      refine s_mem (M' := (zsL (KP M c g) 942 (zwL (oShF g (58 + 51 * f) 1027) 3 ((nI (gN g 3 - 1)).toInt64)))) (zsL_1 _ _ _ _ _) ?_
      refine s_iconstv (v := nI 0) (zdk hX9_drop_0 47 rfl) zc_iconst_0 ?_
      refine s_istore_n (zdk hX9_drop_0 48 rfl) (Nat.le_of_ble_eq_true rfl) ?_
      refine s_ls (ls' := [some (.ref 941), some (.int (nI f)), some (.int (nI 0)), none, none, none, none]) rfl ?_
      refine s_iconstv (v := nI 0) (zdk hX9_drop_0 49 rfl) zc_iconst_0 ?_
      refine s_istore_n (zdk hX9_drop_0 50 rfl) (Nat.le_of_ble_eq_true rfl) ?_
      refine s_ls (ls' := [some (.ref 941), some (.int (nI f)), some (.int (nI 0)), some (.int (nI 0)), none, none, none]) rfl ?_
      have hR : rDi g f 0 0 (zwL (oShF g (58 + 51 * f) 1027) 3 (nI (gN g 3 - 1)).toInt64) := by
        refine ⟨Nat.le_refl 0, Nat.zero_le _, fun k q1 q2 => (zwL_n q2).trans (oShF_u (by omega)), its_e.trans (i64 _), fun f1 q1 k q2 => ?_, fun k q => (zwL_n (by omega)).trans (oShF_u (by omega)), fun w q1 q2 k q => (zwL_n (by omega)).trans (oShF_u (by omega)), fun k q1 q2 => ?_, rfl⟩
        · rw [zwL_n (by omega)]
          unfold oShF
          by_cases q : f1 < f
          · rw [if_pos q, if_neg (by omega)]
          · rw [if_neg q, if_pos (by omega)]
            congr 1
            omega
        · by_cases q : k = 3
          · rw [q, zwL_e, its_e, i64]
          · rw [its_n q, zwL_n q]
            unfold its oShF
            by_cases q3 : 58 + 51 * f ≤ k ∧ k < 1027
            · rw [if_pos q3]
              exact hip _ (by omega) (fun f1 hf1 => by have := q2 (f1 - 1); omega)
            · rw [if_neg q3]
              exact hip _ q1 q2
      exact w_X9_drop_84 hl hm hb hc hc8 hip hf (gN g 5 + 1) 0 0 _ none none hR (by omega)
    · have n46 : i < 1027 := nlt c46 (by omega) (by omega)
      refine s_aload_n (zdk hX9_drop_0 27 rfl) rfl ?_
      refine s_getR (zdk hX9_drop_0 28 rfl) fw_X9_7 rfl (hm.1) (show _ = some 942 from (hm.r (i := 0) rfl).1) ?_
      refine s_iload_n (zdk hX9_drop_0 29 rfl) rfl ?_
      refine s_aload_n (zdk hX9_drop_0 30 rfl) rfl ?_
      refine s_getR (zdk hX9_drop_0 31 rfl) fw_X9_7 rfl (hm.1) (show _ = some 942 from (hm.r (i := 0) rfl).1) ?_
      refine s_iload_n (zdk hX9_drop_0 32 rfl) rfl ?_
      refine s_bipushv (v := nI 51) (zdk hX9_drop_0 33 rfl) zc_bipush_51 ?_
      refine s_iadd (zdk hX9_drop_0 34 rfl) ?_
      refine s_topi (b := nI (i + 51)) (nI_add _ _) ?_
      refine s_laloadN (N := 1390) (j := i + 51) (zdk hX9_drop_0 35 rfl) ((hm.r (i := 0) rfl).2.1) ((hm.r (i := 0) rfl).2.2) (by omega) (by decide) ?_
      refine s_topl (b := (oShF g (58 + 51 * f) i) (i + 51)) (congrFun zJ_Le _) ?_
      refine s_topl (b := g (i + 51)) (oShF_u (by omega)) ?_
      refine s_lastoreN (N := 1390) (j := i) (zdk hX9_drop_0 36 rfl) ((hm.r (i := 0) rfl).2.1) ((hm.r (i := 0) rfl).2.2) (by omega) (by decide) ?_
      refine s_mem (M' := (zsL (KP M c g) 942 (zwL (oShF g (58 + 51 * f) i) i (g (i + 51))))) (zsL_1 _ _ _ _ _) ?_
      refine s_mem (M' := (zsL (KP M c g) 942 (oShF g (58 + 51 * f) (i + 1)))) (zsL_g (oShF_1 h1)) ?_
      refine s_iinc (r := nI (i + 1)) (zdk hX9_drop_0 37 rfl) (Nat.le_of_ble_eq_true rfl) rfl (nI_1 _) ?_
      refine s_ls (ls' := [some (.ref 941), some (.int (nI f)), some (.int (nI (i + 1))), none, none, none, none]) rfl ?_
      refine s_goto 42 (zdk hX9_drop_0 38 rfl) (by decide) ?_
      exact ih (i + 1) (by omega) (by omega) (by omega)
theorem c_X9_drop (hl : l.stackTraces = false)  {M : zMem} (hm : mSh M) {g : Nat → Int64} (hb : gBd g) {c : Nat} (hc : zI M 941 5 = nI c) (hc8 : c ≤ 8) (hip : gIp g) {f : Nat} (hf : f < gN g 3) : zCm l G mX9_drop 3 70 0 0 [.ref 941, .int (nI f)] (zsL M 942 g) (fun o M9 => o = .inl (some (.int (nI (gN g 3 - 1)))) ∧ ∃ g9, M9 = zsL (KP M c g) 942 g9 ∧ zDr g f g9 ∧ gIp g9) := by
  refine zCm.of0 (ls0 := [some (.ref 941), some (.int (nI f)), none, none, none, none, none]) (by decide +kernel) rfl hl rfl (Nat.le_of_ble_eq_true rfl) (fun v' M' q => by obtain ⟨-, g9, rfl, -⟩ := q; rfl) (fun x M' q => by cases q.1) ?_
  have hn2 := hb.2.2.1.2
  have ht4 := hb.2.1.2
  have hcy := hb.1.2.2
  have hpe := hb.2.2.2.1.2
  refine s_aload_n (zdk hX9_drop_0 0 rfl) rfl ?_
  refine s_aload_n (zdk hX9_drop_0 1 rfl) rfl ?_
  refine s_iload_n (zdk hX9_drop_0 2 rfl) rfl ?_
  refine s_callV0 (ci := 9) [.int (nI f)] (zdk hX9_drop_0 3 rfl) cw_X9_254 (hm.1) (by decide) rfl rfl rfl (Nat.le_of_ble_eq_true rfl) (by decide) (c_X9_isFile hl (M := M) (g := g) hm hb (nI f)) ?_
  refine s_if_eq 13 (zdk hX9_drop_0 4 rfl) (by decide) (fun c6 => ?_) (fun c6 => ?_)
  · have b6 : ¬ (inN (nI f) (gN g 3)) := b01_eq c6
    exact absurd (inN_of hf (by omega)) b6
  · have b6 : inN (nI f) (gN g 3) := b01_ne c6
    refine s_iconstv (v := nI 0) (zdk hX9_drop_0 5 rfl) zc_iconst_0 ?_
    refine s_goto 14 (zdk hX9_drop_0 6 rfl) (by decide) ?_
    refine s_putI (zdk hX9_drop_0 8 rfl) fw_X9_69 rfl pw_9_6 (hm.1) ?_
    refine s_mem (M' := (zsL (zsI M 941 6 (nI 0)) 942 g)) rfl ?_
    refine s_aload_n (zdk hX9_drop_0 9 rfl) rfl ?_
    refine s_getI (zdk hX9_drop_0 10 rfl) fw_X9_69 rfl (hm.1) ?_
    refine s_topi (b := nI 0) ((congrFun (zI_Ie (M := M) (a := 941) (k := 6) (v := (nI 0))) 6).trans zw1_e) ?_
    refine s_if_le 26 (zdk hX9_drop_0 11 rfl) (by decide) (fun c21 => ?_) (fun c21 => ?_)
    · refine s_aload_n (zdk hX9_drop_0 14 rfl) rfl ?_
      refine s_aload_n (zdk hX9_drop_0 15 rfl) rfl ?_
      refine s_getR (zdk hX9_drop_0 16 rfl) fw_X9_7 rfl (hm.1) (show _ = some 942 from (hm.r (i := 0) rfl).1) ?_
      refine s_callV0 (ci := 9) [.ref 942] (zdk hX9_drop_0 17 rfl) cw_X9_83 (hm.1) (by decide) rfl rfl rfl (Nat.le_of_ble_eq_true rfl) (by decide) (c_keeps0 hl hm hc hc8) ?_
      refine s_bipushv (v := nI 58) (zdk hX9_drop_0 18 rfl) zc_bipush_58 ?_
      refine s_bipushv (v := nI 51) (zdk hX9_drop_0 19 rfl) zc_bipush_51 ?_
      refine s_iload_n (zdk hX9_drop_0 20 rfl) rfl ?_
      refine s_imul (zdk hX9_drop_0 21 rfl) ?_
      refine s_topi (b := nI (51 * f)) (pk_mul _ _) ?_
      refine s_iadd (zdk hX9_drop_0 22 rfl) ?_
      refine s_topi (b := nI (58 + 51 * f)) (nI_add _ _) ?_
      refine s_istore_n (zdk hX9_drop_0 23 rfl) (Nat.le_of_ble_eq_true rfl) ?_
      refine s_ls (ls' := [some (.ref 941), some (.int (nI f)), some (.int (nI (58 + 51 * f))), none, none, none, none]) rfl ?_
      have h := w_X9_drop_42 (l := l) (G := G) hl hm hb hc hc8 hip hf (1028) (58 + 51 * f) (by omega) (by omega) (by omega)
      rw [oShF_0] at h
      exact h
    · exact absurd (by decide) c21
end

/-! ===== the reference reads: load, its parts ===== -/
/-- the text's head -/
def rHR (u : Nat → Int32) (n : Nat) (g : Nat → Int64) (r : rRd) (g' : Nat → Int64) (r' : rRd) : Prop :=
  ∃ (v1 : Int32) (r1 : rRd) (x : Int32 × rRd) (v3 : Int32) (y : (Nat → Int64) × rRd), rIw u 0 r = v1 ∧ rMu u n v1 r = r1 ∧ rTa u n (nI 2) (nI 12) r1 = x ∧ rIw u 1 x.2 = v3 ∧ (if v3 = 0 then (zwL g 0 x.1.toInt64, x.2) else (zwL (zwL g 0 x.1.toInt64) 1 (rTa u n (nI 1) (nI 8) (rNx u n x.2)).1.toInt64, (rTa u n (nI 1) (nI 8) (rNx u n x.2)).2)) = y ∧ g' = y.1 ∧ r' = rEn u n y.2 ∧ rOk n r'
/-- tiers, files, as many as are told -/
def rTs (u : Nat → Int32) (n : Nat) : Nat → (Nat → Int64) → rRd → (Nat → Int64) → rRd → Prop
  | 0, g, r, g', r' => rIw u 2 r = 0 ∧ g' = g ∧ r' = r
  | k + 1, g, r, g', r' => ¬ rIw u 2 r = 0 ∧ ∃ g1 r1, rTR u n (gN g 2) g r g1 r1 ∧ rTs u n k g1 r1 g' r'
def rFs (u : Nat → Int32) (n : Nat) : Nat → (Nat → Int64) → rRd → (Nat → Int64) → rRd → Prop
  | 0, g, r, g', r' => rIw u 3 r = 0 ∧ g' = g ∧ r' = r
  | k + 1, g, r, g', r' => ¬ rIw u 3 r = 0 ∧ ∃ g1 r1, rFR u n (gN g 3) g r g1 r1 ∧ rFs u n k g1 r1 g' r'
section
variable {l : Launch} {G : zG}
theorem w_X9_load_36 (hl : l.stackTraces = false) {M : zMem} (hm : mSh M) {g : Nat → Int64} {u : Nat → Int32} (hu : zI M 947 = u) {n : Nat} (hn : zI M 941 8 = nI n) (hn6 : n ≤ 600) {r : rRd} (ho : rOk n r) {v1 v3 : Int32} {r1 : rRd} {x : Int32 × rRd} {y : (Nat → Int64) × rRd} (hv1 : rIw u 0 r = v1) (h1 : rMu u n v1 r = r1) (hx : rTa u n (nI 2) (nI 12) r1 = x) (hv3 : rIw u 1 x.2 = v3) (hy : (if v3 = 0 then (zwL g 0 x.1.toInt64, x.2) else (zwL (zwL g 0 x.1.toInt64) 1 (rTa u n (nI 1) (nI 8) (rNx u n x.2)).1.toInt64, (rTa u n (nI 1) (nI 8) (rNx u n x.2)).2)) = y) (ho1 : rOk n r1) (ho2 : rOk n x.2) {Q : zOut → zMem → Prop} (kk : zS l G mX9_load 7 240 0 0 87 [some (.ref 941)] [] (zsL (rdM M y.2) 942 y.1) Q) : zS l G mX9_load 7 240 0 0 36 [some (.ref 941)] [] (zsL (rdM M r) 942 g) Q := by
  refine s_aload_n (zdk hX9_load_0 20 rfl) rfl ?_
  refine s_aload_n (zdk hX9_load_0 21 rfl) rfl ?_
  refine s_ldcS (tx := "cycle") (k := 0) (zdk hX9_load_0 22 rfl) (by decide +kernel) (by decide) ?_
  refine s_callV0 (ci := 9) [.ref (1000000 + 0)] (zdk hX9_load_0 23 rfl) cw_X9_159 (hm.1) (by decide) rfl rfl rfl (Nat.le_of_ble_eq_true rfl) (by decide) (c_X9_isWord hl hm hu hn hn6 (g := g) (r := r) ho (w := 0) (by decide)) ?_
  refine s_topi (b := v1) (hv1) ?_
  refine s_callV0 (ci := 9) [.int (v1)] (zdk hX9_load_0 24 rfl) cw_X9_150 (hm.1) (by decide) rfl rfl rfl (Nat.le_of_ble_eq_true rfl) (by decide) (c_X9_must hl hm hu hn hn6 (g := g) (r := r) ho v1) ?_
  refine s_mem (M' := (zsL (rdM M r1) 942 g)) (by rw [h1]) ?_
  refine s_aload_n (zdk hX9_load_0 25 rfl) rfl ?_
  refine s_getR (zdk hX9_load_0 26 rfl) fw_X9_7 rfl (hm.1) (show _ = some 942 from (hm.r (i := 0) rfl).1) ?_
  refine s_iconstv (v := nI 0) (zdk hX9_load_0 27 rfl) zc_iconst_0 ?_
  refine s_aload_n (zdk hX9_load_0 28 rfl) rfl ?_
  refine s_iconstv (v := nI 2) (zdk hX9_load_0 29 rfl) zc_iconst_2 ?_
  refine s_bipushv (v := nI 12) (zdk hX9_load_0 30 rfl) zc_bipush_12 ?_
  refine s_callV0 (ci := 9) [.int (nI 2), .int (nI 12)] (zdk hX9_load_0 31 rfl) cw_X9_174 (hm.1) (by decide) rfl rfl rfl (Nat.le_of_ble_eq_true rfl) (by decide) (c_X9_takes hl hm hu hn hn6 (g := g) (r := r1) ho1 (nI 2) (nI 12)) ?_
  refine s_topi (b := x.1) (by rw [hx]) ?_
  refine s_mem (M' := (zsL (rdM M x.2) 942 g)) (by rw [hx]) ?_
  refine s_i2l (zdk hX9_load_0 32 rfl) ?_
  refine s_lastoreN (N := 1390) (j := 0) (zdk hX9_load_0 33 rfl) ((hm.r (i := 0) rfl).2.1) ((hm.r (i := 0) rfl).2.2) (by omega) (by decide) ?_
  refine s_mem (M' := (zsL (rdM M x.2) 942 (zwL g 0 ((x.1).toInt64)))) (zsL_1 _ _ _ _ _) ?_
  refine s_aload_n (zdk hX9_load_0 34 rfl) rfl ?_
  refine s_ldcS (tx := "rate") (k := 1) (zdk hX9_load_0 35 rfl) (by decide +kernel) (by decide) ?_
  refine s_callV0 (ci := 9) [.ref (1000000 + 1)] (zdk hX9_load_0 36 rfl) cw_X9_159 (hm.1) (by decide) rfl rfl rfl (Nat.le_of_ble_eq_true rfl) (by decide) (c_X9_isWord hl hm hu hn hn6 (g := (zwL g 0 x.1.toInt64)) (r := x.2) ho2 (w := 1) (by decide)) ?_
  refine s_topi (b := v3) (hv3) ?_
  refine s_if_eq 87 (zdk hX9_load_0 37 rfl) (by decide) (fun c66 => ?_) (fun c66 => ?_)
  · rw [if_pos c66] at hy
    refine s_mem (M' := (zsL (rdM M y.2) 942 y.1)) (by rw [← hy]) ?_
    exact kk
  · rw [if_neg c66] at hy
    refine s_aload_n (zdk hX9_load_0 38 rfl) rfl ?_
    refine s_callV0 (ci := 9) [] (zdk hX9_load_0 39 rfl) cw_X9_147 (hm.1) (by decide) rfl rfl rfl (Nat.le_of_ble_eq_true rfl) (by decide) (c_X9_next hl hm hu hn hn6 (g := (zwL g 0 x.1.toInt64)) (i := x.2.1) (b := x.2.2.1) (k0 := x.2.2.2.1) ho2.2.1 x.2.2.2.2.1 x.2.2.2.2.2.1 x.2.2.2.2.2.2) ?_
    refine s_aload_n (zdk hX9_load_0 40 rfl) rfl ?_
    refine s_getR (zdk hX9_load_0 41 rfl) fw_X9_7 rfl (hm.1) (show _ = some 942 from (hm.r (i := 0) rfl).1) ?_
    refine s_iconstv (v := nI 1) (zdk hX9_load_0 42 rfl) zc_iconst_1 ?_
    refine s_aload_n (zdk hX9_load_0 43 rfl) rfl ?_
    refine s_iconstv (v := nI 1) (zdk hX9_load_0 44 rfl) zc_iconst_1 ?_
    refine s_bipushv (v := nI 8) (zdk hX9_load_0 45 rfl) zc_bipush_8 ?_
    refine s_callV0 (ci := 9) [.int (nI 1), .int (nI 8)] (zdk hX9_load_0 46 rfl) cw_X9_174 (hm.1) (by decide) rfl rfl rfl (Nat.le_of_ble_eq_true rfl) (by decide) (c_X9_takes hl hm hu hn hn6 (g := (zwL g 0 x.1.toInt64)) (r := rNx u n x.2) (rNx_ok ho2) (nI 1) (nI 8)) ?_
    refine s_i2l (zdk hX9_load_0 47 rfl) ?_
    refine s_lastoreN (N := 1390) (j := 1) (zdk hX9_load_0 48 rfl) ((hm.r (i := 0) rfl).2.1) ((hm.r (i := 0) rfl).2.2) (by omega) (by decide) ?_
    refine s_mem (M' := (zsL (rdM M (rTa u n (nI 1) (nI 8) (rNx u n x.2)).2) 942 (zwL (zwL g 0 x.1.toInt64) 1 (((rTa u n (nI 1) (nI 8) (rNx u n x.2)).1).toInt64)))) (zsL_1 _ _ _ _ _) ?_
    refine s_mem (M' := (zsL (rdM M y.2) 942 y.1)) (by rw [← hy]) ?_
    exact kk
theorem w_X9_load_87 (hl : l.stackTraces = false) {M : zMem} (hm : mSh M) {g : Nat → Int64} {u : Nat → Int32} (hu : zI M 947 = u) {n : Nat} (hn : zI M 941 8 = nI n) (hn6 : n ≤ 600) {r : rRd} (ho : rOk n r) {Q : zOut → zMem → Prop} (kk : zS l G mX9_load 7 240 0 0 91 [some (.ref 941)] [] (zsL (rdM M (rEn u n r)) 942 g) Q) : zS l G mX9_load 7 240 0 0 87 [some (.ref 941)] [] (zsL (rdM M r) 942 g) Q := by
  refine s_aload_n (zdk hX9_load_0 49 rfl) rfl ?_
  refine s_callV0 (ci := 9) [] (zdk hX9_load_0 50 rfl) cw_X9_177 (hm.1) (by decide) rfl rfl rfl (Nat.le_of_ble_eq_true rfl) (by decide) (c_X9_mustEnd hl hm hu hn hn6 (g := g) (r := r) ho) ?_
  exact kk
theorem w_X9_load_91 (hl : l.stackTraces = false) {M : zMem} (hm : mSh M) {g : Nat → Int64} {u : Nat → Int32} (hu : zI M 947 = u) {n : Nat} (hn : zI M 941 8 = nI n) (hn6 : n ≤ 600) {r : rRd} (ho : rOk n r) (h2 : its g 2 = nI (gN g 2)) (h4 : gN g 2 ≤ 4) {Q : zOut → zMem → Prop} (kk : ∀ g2 r2, rTR u n (gN g 2) g r g2 r2 → zS l G mX9_load 7 240 0 0 95 [some (.ref 941)] [] (zsL (rdM M r2) 942 g2) Q) : zS l G mX9_load 7 240 0 0 91 [some (.ref 941)] [] (zsL (rdM M r) 942 g) Q := by
  refine s_aload_n (zdk hX9_load_0 51 rfl) rfl ?_
  refine s_callV1 (ci := 9) [] (zdk hX9_load_0 52 rfl) cw_X9_203 (hm.1) (by decide) rfl rfl rfl (Nat.le_of_ble_eq_true rfl) (by decide) (c_X9_readsTier hl hm hu hn hn6 (g := g) (r := r) ho h2 h4) ?_
  intro v9 M9 q9
  obtain ⟨q8, g2, r2, t2, rfl⟩ := q9
  cases q8
  exact kk _ _ t2
theorem w_X9_load_95 (hl : l.stackTraces = false) {M : zMem} (hm : mSh M) {g : Nat → Int64} {u : Nat → Int32} (hu : zI M 947 = u) {n : Nat} (hn : zI M 941 8 = nI n) (hn6 : n ≤ 600) {r : rRd} (ho : rOk n r) (h2 : its g 2 = nI (gN g 2)) (h4 : gN g 2 ≤ 4) {Q : zOut → zMem → Prop} (kk : ∀ g2 r2, rTR u n (gN g 2) g r g2 r2 → zS l G mX9_load 7 240 0 0 99 [some (.ref 941)] [] (zsL (rdM M r2) 942 g2) Q) : zS l G mX9_load 7 240 0 0 95 [some (.ref 941)] [] (zsL (rdM M r) 942 g) Q := by
  refine s_aload_n (zdk hX9_load_0 53 rfl) rfl ?_
  refine s_callV1 (ci := 9) [] (zdk hX9_load_0 54 rfl) cw_X9_203 (hm.1) (by decide) rfl rfl rfl (Nat.le_of_ble_eq_true rfl) (by decide) (c_X9_readsTier hl hm hu hn hn6 (g := g) (r := r) ho h2 h4) ?_
  intro v9 M9 q9
  obtain ⟨q8, g2, r2, t2, rfl⟩ := q9
  cases q8
  exact kk _ _ t2
theorem w_X9_load_99 (hl : l.stackTraces = false) {M : zMem} (hm : mSh M) {u : Nat → Int32} (hu : zI M 947 = u) {n : Nat} (hn : zI M 941 8 = nI n) (hn6 : n ≤ 600) {Q : zOut → zMem → Prop} : ∀ (k : Nat) (g : Nat → Int64) (r : rRd), rOk n r → its g 2 = nI (gN g 2) → gN g 2 ≤ 4 → (if r.2.2.2.2.1 = 0 then 6 - gN g 2 else 0) < k → (∀ k9 g9 r9, rTs u n k9 g r g9 r9 → rOk n r9 → its g9 2 = nI (gN g9 2) → gN g9 2 ≤ 4 → zS l G mX9_load 7 240 0 0 115 [some (.ref 941)] [] (zsL (rdM M r9) 942 g9) Q) → zS l G mX9_load 7 240 0 0 99 [some (.ref 941)] [] (zsL (rdM M r) 942 g) Q := by
  intro k
  induction k with
  | zero => intros; omega
  | succ k ih =>
    intro g r ho h2 h4 hk kk
    refine s_aload_n (zdk hX9_load_0 55 rfl) rfl ?_
    refine s_ldcS (tx := "tier") (k := 2) (zdk hX9_load_0 56 rfl) (by decide +kernel) (by decide) ?_
    refine s_callV0 (ci := 9) [.ref (1000000 + 2)] (zdk hX9_load_0 57 rfl) cw_X9_159 (hm.1) (by decide) rfl rfl rfl (Nat.le_of_ble_eq_true rfl) (by decide) (c_X9_isWord hl hm hu hn hn6 (g := g) (r := r) ho (w := 2) (by decide)) ?_
    refine s_if_eq 115 (zdk hX9_load_0 58 rfl) (by decide) (fun c105 => ?_) (fun c105 => ?_)
    · exact kk 0 g r ⟨c105, rfl, rfl⟩ ho h2 h4
    · refine s_aload_n (zdk hX9_load_0 59 rfl) rfl ?_
      refine s_callV1 (ci := 9) [] (zdk hX9_load_1 0 rfl) cw_X9_203 (hm.1) (by decide) rfl rfl rfl (Nat.le_of_ble_eq_true rfl) (by decide) (c_X9_readsTier hl hm hu hn hn6 (g := g) (r := r) ho h2 h4) ?_
      intro v9 M9 q9
      obtain ⟨q8, g2, r2, t2, rfl⟩ := q9
      cases q8
      refine s_goto 99 (zdk hX9_load_1 1 rfl) (by decide) ?_
      have f := rTR_fc t2 h2 h4
      refine ih g2 r2 f.1 f.2.1 f.2.2.1 ?_ (fun k9 g9 r9 t9 o9 p9 p8 => kk (k9 + 1) g9 r9 ⟨c105, g2, r2, t2, t9⟩ o9 p9 p8)
      have w0 := (rIw_wr c105).1
      rw [if_pos w0] at hk
      by_cases w2 : r2.2.2.2.2.1 = 0
      · have := (f.2.2.2.1 w2).2
        rw [if_pos w2]
        omega
      · rw [if_neg w2]
        omega
theorem w_X9_load_115 (hl : l.stackTraces = false) {M : zMem} (hm : mSh M) {u : Nat → Int32} (hu : zI M 947 = u) {n : Nat} (hn : zI M 941 8 = nI n) (hn6 : n ≤ 600) {Q : zOut → zMem → Prop} : ∀ (k : Nat) (g : Nat → Int64) (r : rRd), rOk n r → its g 2 = nI (gN g 2) → gN g 2 ≤ 4 → its g 3 = nI (gN g 3) → gN g 3 ≤ 20 → (r.2.2.2.2.1 = 0 → gBd g) → (if r.2.2.2.2.1 = 0 then 22 - gN g 3 else 0) < k → (∀ k9 g9 r9, rFs u n k9 g r g9 r9 → rOk n r9 → its g9 3 = nI (gN g9 3) → gN g9 3 ≤ 20 → zS l G mX9_load 7 240 0 0 131 [some (.ref 941)] [] (zsL (rdM M r9) 942 g9) Q) → zS l G mX9_load 7 240 0 0 115 [some (.ref 941)] [] (zsL (rdM M r) 942 g) Q := by
  intro k
  induction k with
  | zero => intros; omega
  | succ k ih =>
    intro g r ho h2 h4 h3 h20 hbd hk kk
    refine s_aload_n (zdk hX9_load_1 2 rfl) rfl ?_
    refine s_ldcS (tx := "file") (k := 3) (zdk hX9_load_1 3 rfl) (by decide +kernel) (by decide) ?_
    refine s_callV0 (ci := 9) [.ref (1000000 + 3)] (zdk hX9_load_1 4 rfl) cw_X9_159 (hm.1) (by decide) rfl rfl rfl (Nat.le_of_ble_eq_true rfl) (by decide) (c_X9_isWord hl hm hu hn hn6 (g := g) (r := r) ho (w := 3) (by decide)) ?_
    refine s_if_eq 131 (zdk hX9_load_1 5 rfl) (by decide) (fun c121 => ?_) (fun c121 => ?_)
    · exact kk 0 g r ⟨c121, rfl, rfl⟩ ho h3 h20
    · refine s_aload_n (zdk hX9_load_1 6 rfl) rfl ?_
      refine s_callV1 (ci := 9) [] (zdk hX9_load_1 7 rfl) cw_X9_208 (hm.1) (by decide) rfl rfl rfl (Nat.le_of_ble_eq_true rfl) (by decide) (c_X9_readsFile hl hm hu hn hn6 (g := g) (r := r) ho h2 h4 h3 h20 hbd) ?_
      intro v9 M9 q9
      obtain ⟨q8, g2, r2, t2, rfl⟩ := q9
      cases q8
      refine s_goto 115 (zdk hX9_load_1 8 rfl) (by decide) ?_
      have f := rFR_fc t2 h2 h4 h3 h20
      have e2 := f.2.2.2.2 2 (by decide)
      refine ih g2 r2 f.1 (by rw [its_eq e2, gN_eq e2]; exact h2) (by rw [gN_eq e2]; exact h4) f.2.1 f.2.2.1 (fun q => rFR_gB t2 hbd q) ?_ (fun k9 g9 r9 t9 o9 p9 p8 => kk (k9 + 1) g9 r9 ⟨c121, g2, r2, t2, t9⟩ o9 p9 p8)
      have w0 := (rIw_wr c121).1
      rw [if_pos w0] at hk
      by_cases w2 : r2.2.2.2.2.1 = 0
      · have := (f.2.2.2.1 w2).2
        rw [if_pos w2]
        omega
      · rw [if_neg w2]
        omega
end

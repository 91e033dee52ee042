theorem zc_bipush_6 : (Int8.ofInt 6).toInt32 = nI 6 := by decide
theorem zc_bipush_13 : (Int8.ofInt 13).toInt32 = nI 13 := by decide
theorem zc_bipush_51 : (Int8.ofInt 51).toInt32 = nI 51 := by decide
/-! ===== the reference: its shape, its least methods ===== -/
def mL : List (Nat × Nat × Nat × Nat) := [(0, 942, 12, 1390), (1, 943, 12, 1390), (2, 944, 12, 11120), (3, 945, 12, 2780), (4, 946, 13, 2), (7, 947, 11, 600), (16, 948, 11, 20), (17, 949, 11, 20), (18, 950, 11, 20), (19, 951, 11, 20), (20, 952, 13, 20), (21, 953, 11, 4), (22, 954, 12, 80), (30, 955, 11, 300)]
/-- the reference's object at 941, its rows behind it -/
def mSh (M : zMem) : Prop := zK M 941 = 10 ∧ ∀ q ∈ mL, zR M 941 q.1 = some q.2.1 ∧ zK M q.2.1 = q.2.2.1 ∧ zN M q.2.1 = q.2.2.2
theorem mSh.r {M : zMem} (h : mSh M) {i : Nat} {q : Nat × Nat × Nat × Nat} (hi : mL[i]? = some q) : zR M 941 q.1 = some q.2.1 ∧ zK M q.2.1 = q.2.2.1 ∧ zN M q.2.1 = q.2.2.2 := h.2 q (List.mem_of_getElem? hi)
theorem mSh.keep {M M' : zMem} (h : mSh M) (e : zsh M M') (er : zR M' 941 = zR M 941) : mSh M' := ⟨(zsh_K e 941).trans h.1, fun q hq => ⟨by rw [er]; exact (h.2 q hq).1, (zsh_K e _).trans (h.2 q hq).2.1, (zsh_N e _).trans (h.2 q hq).2.2⟩⟩
theorem b01_ne {C : Prop} [Decidable C] (h : ¬ (if C then nI 1 else nI 0) = 0) : C := by
  by_cases q : C
  · exact q
  · rw [if_neg q] at h; exact absurd rfl h
theorem b01_eq {C : Prop} [Decidable C] (h : (if C then nI 1 else nI 0) = 0) : ¬ C := by
  intro q
  rw [if_pos q] at h
  exact absurd h (by decide)
theorem zsL_Jn {X : zMem} {a b k : Nat} {g : Nat → Int64} {v : Int64} (h : b ≠ a) : zsJ (zsL X a g) b k v = zsL (zsJ X b k v) a g := by
  unfold zsJ zsL
  congr 2
  funext c
  unfold zu zur
  by_cases q : c = a
  · subst q
    by_cases q2 : c = b
    · exact absurd q2.symm h
    · simp [q2]
  · by_cases q2 : c = b
    · subst q2
      simp [q, h]
    · simp [q, q2]
theorem zth_id {M : zMem} (h : zF M = 1) : zth M = M := by
  obtain ⟨a, b, c, d, e, f, k⟩ := M
  have h' : k = 1 := h
  subst h'
  rfl
/-- a number's place below n -/
abbrev inN (v : Int32) (n : Nat) : Prop := 0 ≤ v ∧ v < nI n
theorem inN_nat {v : Int32} {n : Nat} (h : inN v n) (hn : n < 100000) : ∃ k, v = nI k ∧ k < n := by
  obtain ⟨k, hk, rfl⟩ := nI_of (Int32.not_lt.mpr h.1)
  exact ⟨k, rfl, (nI_ltI hk (by omega)).mp h.2⟩
theorem inN_of {k n : Nat} (h : k < n) (hn : n < 100000) : inN (nI k) n := ⟨nI_pos' (by omega), nI_lt h (by omega)⟩
theorem inN_le {v : Int32} {n : Nat} (hn : n < 100000) : (nI 0 ≤ v ∧ v ≤ nI n - nI 1) ↔ inN v n := by
  constructor
  · rintro ⟨h1, h2⟩
    obtain ⟨k, hk, rfl⟩ := nI_of (Int32.not_lt.mpr h1)
    rcases Nat.eq_zero_or_pos n with q | q
    · subst q
      have h3 : nI 0 ≤ nI 0 - nI 1 := Int32.le_trans h1 h2
      exact absurd h3 (by decide)
    · rw [pk_sub (by omega)] at h2
      have h3 := (nI_leI hk (by omega)).mp h2
      exact inN_of (by omega) hn
  · intro h
    obtain ⟨k, rfl, hk⟩ := inN_nat h hn
    exact ⟨nI_pos' (by omega), by rw [pk_sub (by omega)]; exact nI_le (by omega) (by omega)⟩
theorem gBd.h0 {g : Nat → Int64} (h : gBd g) : its g 0 = nI (gN g 0) := h.1.1
theorem gBd.h2 {g : Nat → Int64} (h : gBd g) : its g 2 = nI (gN g 2) := h.2.1.1
theorem gBd.h3 {g : Nat → Int64} (h : gBd g) : its g 3 = nI (gN g 3) := h.2.2.1.1
theorem gBd.h4 {g : Nat → Int64} (h : gBd g) : its g 4 = nI (gN g 4) := h.2.2.2.1.1
theorem gBd.h5 {g : Nat → Int64} (h : gBd g) : its g 5 = nI (gN g 5) := h.2.2.2.2.1.1
theorem b01 {C D : Prop} [Decidable C] [Decidable D] (h : C ↔ D) : (if C then nI 1 else nI 0) = (if D then nI 1 else nI 0) := by
  by_cases q : C
  · rw [if_pos q, if_pos (h.mp q)]
  · rw [if_neg q, if_neg (fun z => q (h.mpr z))]
theorem i64_lt {x y : Int32} : x.toInt64 < y.toInt64 ↔ x < y := by rw [Int64.lt_iff_toInt_lt, Int32.lt_iff_toInt_lt, Int32.toInt_toInt64, Int32.toInt_toInt64]
theorem nar01 {C : Prop} [Decidable C] : narrow .boolean (.int (if C then nI 1 else nI 0)) = .int (if C then nI 1 else nI 0) := by
  by_cases q : C
  · rw [if_pos q]; rfl
  · rw [if_neg q]; rfl
theorem lcmp_i {a b : Int64} : 0 ≤ lg_cmp a b ↔ ¬ a < b := by
  unfold lg_cmp
  by_cases h1 : a > b
  · rw [if_pos h1]
    refine ⟨fun _ q => ?_, fun _ => by decide⟩
    have h2 : b < a := h1
    rw [Int64.lt_iff_toInt_lt] at h2 q
    omega
  · rw [if_neg h1]
    by_cases h2 : a = b
    · rw [if_pos h2]
      subst h2
      exact ⟨fun _ q => h1 q, fun _ => by decide⟩
    · rw [if_neg h2]
      refine ⟨fun q => absurd q (by decide), fun q => absurd (Int64.toInt_inj.mp ?_) h2⟩
      have h3 : ¬ b < a := h1
      rw [Int64.lt_iff_toInt_lt] at h3 q
      omega
theorem pinC {g : Nat → Int64} {P : Nat} {x : Int32} (h4 : g 4 = (its g 4).toInt64) (h : its g 4 = nI P) : (0 ≤ lg_cmp (g 4) x.toInt64) ↔ ¬ nI P < x := by
  rw [h4, h]
  rw [lcmp_i]
  exact not_congr i64_lt
theorem pinL {g : Nat → Int64} {P : Nat} {x : Int32} (h4 : g 4 = (its g 4).toInt64) (h : its g 4 = nI P) (c : 0 ≤ lg_cmp (g 4) x.toInt64) (q : nI P < x) : False := (pinC h4 h).mp c q
theorem pinR {g : Nat → Int64} {P : Nat} {x : Int32} (h4 : g 4 = (its g 4).toInt64) (h : its g 4 = nI P) (c : ¬ 0 ≤ lg_cmp (g 4) x.toInt64) : nI P < x := Classical.byContradiction fun q => c ((pinC h4 h).mpr q)
section
variable {l : Launch} {G : zG}
theorem c_X9_its (hl : l.stackTraces = false) {M : zMem} (hm : mSh M) {g : Nat → Int64} {k : Nat} (hk : k < 1390) : zCm l G mX9_its 0 0 0 0 [.ref 941, .int (nI k)] (zsL M 942 g) (zD (some (.int (its g k))) (zsL M 942 g)) := by
  refine zCd.of (ls0 := [some (.ref 941), some (.int (nI k))]) (by decide +kernel) rfl hl rfl (Nat.le_of_ble_eq_true rfl) rfl ?_
  refine s_aload_n (zdk hX9_its 0 rfl) rfl ?_
  refine s_getR (zdk hX9_its 1 rfl) fw_X9_7 rfl (hm.1) ((hm.r (i := 0) rfl).1) ?_
  refine s_iload_n (zdk hX9_its 2 rfl) rfl ?_
  refine s_laloadN (N := 1390) (j := k) (zdk hX9_its 3 rfl) ((hm.r (i := 0) rfl).2.1) ((hm.r (i := 0) rfl).2.2) (by omega) (by decide) ?_
  refine s_topl (b := g k) (congrFun zJ_Le _) ?_
  refine s_l2i (zdk hX9_its 4 rfl) ?_
  refine s_topi (b := its g k) (rfl) ?_
  refine s_ireturn (zdk hX9_its 5 rfl) rfl rfl ?_
  exact ⟨rfl, rfl⟩
theorem c_X9_itsN (hl : l.stackTraces = false) {M : zMem} (hm : mSh M) {g : Nat → Int64} {k : Nat} (hk : k < 1390) (hn : its g k = nI (gN g k)) : zCm l G mX9_its 0 0 0 0 [.ref 941, .int (nI k)] (zsL M 942 g) (zD (some (.int (nI (gN g k)))) (zsL M 942 g)) := by
  refine zCd.of (ls0 := [some (.ref 941), some (.int (nI k))]) (by decide +kernel) rfl hl rfl (Nat.le_of_ble_eq_true rfl) rfl ?_
  refine s_aload_n (zdk hX9_its 0 rfl) rfl ?_
  refine s_getR (zdk hX9_its 1 rfl) fw_X9_7 rfl (hm.1) ((hm.r (i := 0) rfl).1) ?_
  refine s_iload_n (zdk hX9_its 2 rfl) rfl ?_
  refine s_laloadN (N := 1390) (j := k) (zdk hX9_its 3 rfl) ((hm.r (i := 0) rfl).2.1) ((hm.r (i := 0) rfl).2.2) (by omega) (by decide) ?_
  refine s_topl (b := g k) (congrFun zJ_Le _) ?_
  refine s_l2i (zdk hX9_its 4 rfl) ?_
  refine s_topi (b := its g k) (rfl) ?_
  refine s_topi (b := nI (gN g k)) (hn) ?_
  refine s_ireturn (zdk hX9_its 5 rfl) rfl rfl ?_
  exact ⟨rfl, rfl⟩
theorem c_X9_tiers (hl : l.stackTraces = false) {M : zMem} (hm : mSh M) {g : Nat → Int64} (hb : gBd g) : zCm l G mX9_tiers 1 22 0 0 [.ref 941] (zsL M 942 g) (zD (some (.int (nI (gN g 2)))) (zsL M 942 g)) := by
  refine zCd.of (ls0 := [some (.ref 941)]) (by decide +kernel) rfl hl rfl (Nat.le_of_ble_eq_true rfl) rfl ?_
  refine s_aload_n (zdk hX9_tiers 0 rfl) rfl ?_
  refine s_iconstv (v := nI 2) (zdk hX9_tiers 1 rfl) zc_iconst_2 ?_
  refine s_callV0 (ci := 9) [.int (nI 2)] (zdk hX9_tiers 2 rfl) cw_X9_87 (hm.1) (by decide) rfl rfl rfl (Nat.le_of_ble_eq_true rfl) (by decide) (c_X9_itsN hl (M := M) (g := g) hm (k := 2) (by decide) (hb.h2)) ?_
  refine s_ireturn (zdk hX9_tiers 3 rfl) rfl rfl ?_
  exact ⟨rfl, rfl⟩
theorem c_X9_files (hl : l.stackTraces = false) {M : zMem} (hm : mSh M) {g : Nat → Int64} (hb : gBd g) : zCm l G mX9_files 1 22 0 0 [.ref 941] (zsL M 942 g) (zD (some (.int (nI (gN g 3)))) (zsL M 942 g)) := by
  refine zCd.of (ls0 := [some (.ref 941)]) (by decide +kernel) rfl hl rfl (Nat.le_of_ble_eq_true rfl) rfl ?_
  refine s_aload_n (zdk hX9_files 0 rfl) rfl ?_
  refine s_iconstv (v := nI 3) (zdk hX9_files 1 rfl) zc_iconst_3 ?_
  refine s_callV0 (ci := 9) [.int (nI 3)] (zdk hX9_files 2 rfl) cw_X9_87 (hm.1) (by decide) rfl rfl rfl (Nat.le_of_ble_eq_true rfl) (by decide) (c_X9_itsN hl (M := M) (g := g) hm (k := 3) (by decide) (hb.h3)) ?_
  refine s_ireturn (zdk hX9_files 3 rfl) rfl rfl ?_
  exact ⟨rfl, rfl⟩
theorem c_X9_ofTier (hl : l.stackTraces = false) {M : zMem} (hm : mSh M) {g : Nat → Int64} {t k : Nat} (hk : 6 + 13 * t + k < 1390) : zCm l G mX9_ofTier 1 22 0 0 [.ref 941, .int (nI t), .int (nI k)] (zsL M 942 g) (zD (some (.int (gt g t k))) (zsL M 942 g)) := by
  refine zCd.of (ls0 := [some (.ref 941), some (.int (nI t)), some (.int (nI k))]) (by decide +kernel) rfl hl rfl (Nat.le_of_ble_eq_true rfl) rfl ?_
  refine s_aload_n (zdk hX9_ofTier 0 rfl) rfl ?_
  refine s_bipushv (v := nI 6) (zdk hX9_ofTier 1 rfl) zc_bipush_6 ?_
  refine s_bipushv (v := nI 13) (zdk hX9_ofTier 2 rfl) zc_bipush_13 ?_
  refine s_iload_n (zdk hX9_ofTier 3 rfl) rfl ?_
  refine s_imul (zdk hX9_ofTier 4 rfl) ?_
  refine s_topi (b := nI (13 * t)) (pk_mul _ _) ?_
  refine s_iadd (zdk hX9_ofTier 5 rfl) ?_
  refine s_topi (b := nI (6 + 13 * t)) (nI_add _ _) ?_
  refine s_iload_n (zdk hX9_ofTier 6 rfl) rfl ?_
  refine s_iadd (zdk hX9_ofTier 7 rfl) ?_
  refine s_topi (b := nI (6 + 13 * t + k)) (nI_add _ _) ?_
  refine s_callV0 (ci := 9) [.int (nI (6 + 13 * t + k))] (zdk hX9_ofTier 8 rfl) cw_X9_87 (hm.1) (by decide) rfl rfl rfl (Nat.le_of_ble_eq_true rfl) (by decide) (c_X9_its hl (M := M) (g := g) hm (k := (6 + 13 * t + k)) (by omega)) ?_
  refine s_ireturn (zdk hX9_ofTier 9 rfl) rfl rfl ?_
  exact ⟨rfl, rfl⟩
theorem c_X9_of (hl : l.stackTraces = false) {M : zMem} (hm : mSh M) {g : Nat → Int64} {f k : Nat} (hk : 58 + 51 * f + k < 1390) : zCm l G mX9_of 1 22 0 0 [.ref 941, .int (nI f), .int (nI k)] (zsL M 942 g) (zD (some (.int (gf g f k))) (zsL M 942 g)) := by
  refine zCd.of (ls0 := [some (.ref 941), some (.int (nI f)), some (.int (nI k))]) (by decide +kernel) rfl hl rfl (Nat.le_of_ble_eq_true rfl) rfl ?_
  refine s_aload_n (zdk hX9_of 0 rfl) rfl ?_
  refine s_bipushv (v := nI 58) (zdk hX9_of 1 rfl) zc_bipush_58 ?_
  refine s_bipushv (v := nI 51) (zdk hX9_of 2 rfl) zc_bipush_51 ?_
  refine s_iload_n (zdk hX9_of 3 rfl) rfl ?_
  refine s_imul (zdk hX9_of 4 rfl) ?_
  refine s_topi (b := nI (51 * f)) (pk_mul _ _) ?_
  refine s_iadd (zdk hX9_of 5 rfl) ?_
  refine s_topi (b := nI (58 + 51 * f)) (nI_add _ _) ?_
  refine s_iload_n (zdk hX9_of 6 rfl) rfl ?_
  refine s_iadd (zdk hX9_of 7 rfl) ?_
  refine s_topi (b := nI (58 + 51 * f + k)) (nI_add _ _) ?_
  refine s_callV0 (ci := 9) [.int (nI (58 + 51 * f + k))] (zdk hX9_of 8 rfl) cw_X9_87 (hm.1) (by decide) rfl rfl rfl (Nat.le_of_ble_eq_true rfl) (by decide) (c_X9_its hl (M := M) (g := g) hm (k := (58 + 51 * f + k)) (by omega)) ?_
  refine s_ireturn (zdk hX9_of 9 rfl) rfl rfl ?_
  exact ⟨rfl, rfl⟩
theorem c_X9_ofS (hl : l.stackTraces = false) {M : zMem} (hm : mSh M) {g : Nat → Int64} {f p : Nat} (hk : 58 + 51 * f + 14 + p < 1390) : zCm l G mX9_of 1 22 0 0 [.ref 941, .int (nI f), .int (nI (14 + p))] (zsL M 942 g) (zD (some (.int (gs g f p))) (zsL M 942 g)) := by
  have h := c_X9_of (l := l) (G := G) hl hm (g := g) (f := f) (k := 14 + p) (by omega)
  have e : gf g f (14 + p) = gs g f p := by unfold gf gs; exact congrArg (its g) (by omega)
  rw [e] at h
  exact h
theorem c_X9_ofU (hl : l.stackTraces = false) {M : zMem} (hm : mSh M) {g : Nat → Int64} {f j : Nat} (hk : 58 + 51 * f + 26 + j < 1390) : zCm l G mX9_of 1 22 0 0 [.ref 941, .int (nI f), .int (nI (26 + j))] (zsL M 942 g) (zD (some (.int (gu g f j))) (zsL M 942 g)) := by
  have h := c_X9_of (l := l) (G := G) hl hm (g := g) (f := f) (k := 26 + j) (by omega)
  have e : gf g f (26 + j) = gu g f j := by unfold gf gu; exact congrArg (its g) (by omega)
  rw [e] at h
  exact h
theorem c_X9_sets (hl : l.stackTraces = false) {M : zMem} (hm : mSh M) {g : Nat → Int64} {f k E : Nat} (hE : 58 + 51 * f + k = E) (hk : E < 1390) (v : Int64) : zCm l G mX9_sets 0 0 0 0 [.ref 941, .int (nI f), .int (nI k), .long (v)] (zsL M 942 g) (zD none (zsL M 942 (zwL g E v))) := by
  refine zCd.of (ls0 := [some (.ref 941), some (.int (nI f)), some (.int (nI k)), some (.long (v)), none]) (by decide +kernel) rfl hl rfl (Nat.le_of_ble_eq_true rfl) (by exact (zsL_1 _ _ _ _ _) ▸ rfl) ?_
  refine s_aload_n (zdk hX9_sets 0 rfl) rfl ?_
  refine s_getR (zdk hX9_sets 1 rfl) fw_X9_7 rfl (hm.1) ((hm.r (i := 0) rfl).1) ?_
  refine s_bipushv (v := nI 58) (zdk hX9_sets 2 rfl) zc_bipush_58 ?_
  refine s_bipushv (v := nI 51) (zdk hX9_sets 3 rfl) zc_bipush_51 ?_
  refine s_iload_n (zdk hX9_sets 4 rfl) rfl ?_
  refine s_imul (zdk hX9_sets 5 rfl) ?_
  refine s_topi (b := nI (51 * f)) (pk_mul _ _) ?_
  refine s_iadd (zdk hX9_sets 6 rfl) ?_
  refine s_topi (b := nI (58 + 51 * f)) (nI_add _ _) ?_
  refine s_iload_n (zdk hX9_sets 7 rfl) rfl ?_
  refine s_iadd (zdk hX9_sets 8 rfl) ?_
  refine s_topi (b := nI (58 + 51 * f + k)) (nI_add _ _) ?_
  refine s_lload_n (zdk hX9_sets 9 rfl) rfl ?_
  refine s_lastoreN (N := 1390) (j := 58 + 51 * f + k) (zdk hX9_sets 10 rfl) ((hm.r (i := 0) rfl).2.1) ((hm.r (i := 0) rfl).2.2) (by omega) (by decide) ?_
  refine s_mem (M' := (zsL M 942 (zwL g (58 + 51 * f + k) (v)))) (zsL_1 _ _ _ _ _) ?_
  refine s_return (zdk hX9_sets 11 rfl) rfl ?_
  subst hE; exact ⟨rfl, rfl⟩
theorem c_X9_isIn (hl : l.stackTraces = false) (M : zMem) (v a b : Int32) : zCm l G mX9_isIn 0 0 0 0 [.int v, .int a, .int b] M (zD (some (.int (if a ≤ v ∧ v ≤ b then nI 1 else nI 0))) M) := by
  refine zCd.of (ls0 := [some (.int v), some (.int a), some (.int b)]) (by decide +kernel) rfl hl rfl (Nat.le_of_ble_eq_true rfl) rfl ?_
  refine s_iload_n (zdk hX9_isIn 0 rfl) rfl ?_
  refine s_iload_n (zdk hX9_isIn 1 rfl) rfl ?_
  refine s_icmp_lt 14 (zdk hX9_isIn 2 rfl) (by decide) (fun c2 => ?_) (fun c2 => ?_)
  · refine s_iconstv (v := nI 0) (zdk hX9_isIn 8 rfl) zc_iconst_0 ?_
    refine s_ireturn (zdk hX9_isIn 9 rfl) rfl rfl ?_
    first | (rw [if_pos ⟨Int32.not_lt.mp c2, Int32.not_lt.mp c7⟩]; exact ⟨rfl, rfl⟩) | (rw [if_neg (fun q => absurd c7 (Int32.not_lt.mpr q.2))]; exact ⟨rfl, rfl⟩) | (rw [if_neg (fun q => absurd c2 (Int32.not_lt.mpr q.1))]; exact ⟨rfl, rfl⟩)
  · refine s_iload_n (zdk hX9_isIn 3 rfl) rfl ?_
    refine s_iload_n (zdk hX9_isIn 4 rfl) rfl ?_
    refine s_icmp_gt 14 (zdk hX9_isIn 5 rfl) (by decide) (fun c7 => ?_) (fun c7 => ?_)
    · refine s_iconstv (v := nI 0) (zdk hX9_isIn 8 rfl) zc_iconst_0 ?_
      refine s_ireturn (zdk hX9_isIn 9 rfl) rfl rfl ?_
      first | (rw [if_pos ⟨Int32.not_lt.mp c2, Int32.not_lt.mp c7⟩]; exact ⟨rfl, rfl⟩) | (rw [if_neg (fun q => absurd c7 (Int32.not_lt.mpr q.2))]; exact ⟨rfl, rfl⟩) | (rw [if_neg (fun q => absurd c2 (Int32.not_lt.mpr q.1))]; exact ⟨rfl, rfl⟩)
    · refine s_iconstv (v := nI 1) (zdk hX9_isIn 6 rfl) zc_iconst_1 ?_
      refine s_goto 15 (zdk hX9_isIn 7 rfl) (by decide) ?_
      refine s_ireturn (zdk hX9_isIn 9 rfl) rfl rfl ?_
      first | (rw [if_pos ⟨Int32.not_lt.mp c2, Int32.not_lt.mp c7⟩]; exact ⟨rfl, rfl⟩) | (rw [if_neg (fun q => absurd c7 (Int32.not_lt.mpr q.2))]; exact ⟨rfl, rfl⟩) | (rw [if_neg (fun q => absurd c2 (Int32.not_lt.mpr q.1))]; exact ⟨rfl, rfl⟩)
theorem c_X9_isTier (hl : l.stackTraces = false) {M : zMem} (hm : mSh M) {g : Nat → Int64} (hb : gBd g) (t : Int32) : zCm l G mX9_isTier 2 44 0 0 [.ref 941, .int (t)] (zsL M 942 g) (zD (some (.int (if inN t (gN g 2) then nI 1 else nI 0))) (zsL M 942 g)) := by
  refine zCd.of (ls0 := [some (.ref 941), some (.int (t))]) (by decide +kernel) rfl hl rfl (Nat.le_of_ble_eq_true rfl) rfl ?_
  have hn := hb.2.1.2
  refine s_iload_n (zdk hX9_isTier 0 rfl) rfl ?_
  refine s_iconstv (v := nI 0) (zdk hX9_isTier 1 rfl) zc_iconst_0 ?_
  refine s_aload_n (zdk hX9_isTier 2 rfl) rfl ?_
  refine s_callV0 (ci := 9) [] (zdk hX9_isTier 3 rfl) cw_X9_154 (hm.1) (by decide) rfl rfl rfl (Nat.le_of_ble_eq_true rfl) (by decide) (c_X9_tiers hl (M := M) (g := g) hm hb) ?_
  refine s_iconstv (v := nI 1) (zdk hX9_isTier 4 rfl) zc_iconst_1 ?_
  refine s_isub (zdk hX9_isTier 5 rfl) ?_
  refine s_callS0 [.int (t), .int (nI 0), .int ((nI (gN g 2)) - (nI 1))] (zdk hX9_isTier 6 rfl) cw_X9_79 rfl (Nat.le_of_ble_eq_true rfl) (by decide) (c_X9_isIn hl (zsL M 942 g) (t) (nI 0) ((nI (gN g 2)) - (nI 1))) ?_
  refine s_topi (b := if inN t (gN g 2) then nI 1 else nI 0) (b01 (inN_le (by omega))) ?_
  refine s_ireturn (zdk hX9_isTier 7 rfl) rfl nar01 ?_
  exact ⟨rfl, rfl⟩
theorem c_X9_isFile (hl : l.stackTraces = false) {M : zMem} (hm : mSh M) {g : Nat → Int64} (hb : gBd g) (t : Int32) : zCm l G mX9_isFile 2 44 0 0 [.ref 941, .int (t)] (zsL M 942 g) (zD (some (.int (if inN t (gN g 3) then nI 1 else nI 0))) (zsL M 942 g)) := by
  refine zCd.of (ls0 := [some (.ref 941), some (.int (t))]) (by decide +kernel) rfl hl rfl (Nat.le_of_ble_eq_true rfl) rfl ?_
  have hn := hb.2.2.1.2
  refine s_iload_n (zdk hX9_isFile 0 rfl) rfl ?_
  refine s_iconstv (v := nI 0) (zdk hX9_isFile 1 rfl) zc_iconst_0 ?_
  refine s_aload_n (zdk hX9_isFile 2 rfl) rfl ?_
  refine s_callV0 (ci := 9) [] (zdk hX9_isFile 3 rfl) cw_X9_180 (hm.1) (by decide) rfl rfl rfl (Nat.le_of_ble_eq_true rfl) (by decide) (c_X9_files hl (M := M) (g := g) hm hb) ?_
  refine s_iconstv (v := nI 1) (zdk hX9_isFile 4 rfl) zc_iconst_1 ?_
  refine s_isub (zdk hX9_isFile 5 rfl) ?_
  refine s_callS0 [.int (t), .int (nI 0), .int ((nI (gN g 3)) - (nI 1))] (zdk hX9_isFile 6 rfl) cw_X9_79 rfl (Nat.le_of_ble_eq_true rfl) (by decide) (c_X9_isIn hl (zsL M 942 g) (t) (nI 0) ((nI (gN g 3)) - (nI 1))) ?_
  refine s_topi (b := if inN t (gN g 3) then nI 1 else nI 0) (b01 (inN_le (by omega))) ?_
  refine s_ireturn (zdk hX9_isFile 7 rfl) rfl nar01 ?_
  exact ⟨rfl, rfl⟩
theorem w_X9_fullOf_4 (hl : l.stackTraces = false) {M : zMem} (hm : mSh M) {g : Nat → Int64} (hb : gBd g) (x : Int32) : ∀ (k : Nat) (i : Nat), i ≤ gN g 3 → gN g 3 - i < k → zS l G mX9_fullOf 2 44 0 0 4 [some (.ref 941), some (.int (x)), some (.int (zfull g x i)), some (.int (nI i))] [] (zsL M 942 g) (zD (some (.int (zfull g x (gN g 3)))) (zsL M 942 g)) := by
  intro k
  induction k with
  | zero => intros; omega
  | succ k ih =>
    intro i hi hk
    have hn := hb.2.2.1.2
    refine s_iload_n (zdk hX9_fullOf 4 rfl) rfl ?_
    refine s_aload_n (zdk hX9_fullOf 5 rfl) rfl ?_
    refine s_callV0 (ci := 9) [] (zdk hX9_fullOf 6 rfl) cw_X9_180 (hm.1) (by decide) rfl rfl rfl (Nat.le_of_ble_eq_true rfl) (by decide) (c_X9_files hl (M := M) (g := g) hm hb) ?_
    refine s_icmp_ge 41 (zdk hX9_fullOf 7 rfl) (by decide) (fun c9 => ?_) (fun c9 => ?_)
    · have n9 : gN g 3 ≤ i := nle c9 (by omega) (by omega)
      obtain rfl : i = gN g 3 := by omega
      refine s_iload_n (zdk hX9_fullOf 25 rfl) rfl ?_
      refine s_ireturn (zdk hX9_fullOf 26 rfl) rfl rfl ?_
      exact ⟨rfl, rfl⟩
    · have n9 : i < gN g 3 := nlt c9 (by omega) (by omega)
      refine s_iload_n (zdk hX9_fullOf 8 rfl) rfl ?_
      refine s_aload_n (zdk hX9_fullOf 9 rfl) rfl ?_
      refine s_iload_n (zdk hX9_fullOf 10 rfl) rfl ?_
      refine s_iconstv (v := nI 1) (zdk hX9_fullOf 11 rfl) zc_iconst_1 ?_
      refine s_callV0 (ci := 9) [.int (nI i), .int (nI 1)] (zdk hX9_fullOf 12 rfl) cw_X9_211 (hm.1) (by decide) rfl rfl rfl (Nat.le_of_ble_eq_true rfl) (by decide) (c_X9_of hl (M := M) (g := g) hm (f := i) (k := 1) (by omega)) ?_
      refine s_iload_n (zdk hX9_fullOf 13 rfl) rfl ?_
      refine s_icmp_ne 32 (zdk hX9_fullOf 14 rfl) (by decide) (fun c20 => ?_) (fun c20 => ?_)
      · have e1 : zfull g x (i + 1) = zfull g x i + nI 0 := (if_neg c20).trans (Int32.add_zero _).symm
        refine s_iconstv (v := nI 0) (zdk hX9_fullOf 20 rfl) zc_iconst_0 ?_
        refine s_iadd (zdk hX9_fullOf 21 rfl) ?_
        refine s_istore_n (zdk hX9_fullOf 22 rfl) (Nat.le_of_ble_eq_true rfl) ?_
        refine s_ls (ls' := [some (.ref 941), some (.int (x)), some (.int ((zfull g x i) + (nI 0))), some (.int (nI i))]) rfl ?_
        refine s_ls (ls' := [some (.ref 941), some (.int (x)), some (.int (zfull g x (i + 1))), some (.int (nI i))]) (by rw [e1]) ?_
        refine s_iinc (r := nI (i + 1)) (zdk hX9_fullOf 23 rfl) (Nat.le_of_ble_eq_true rfl) rfl (nI_1 _) ?_
        refine s_ls (ls' := [some (.ref 941), some (.int (x)), some (.int (zfull g x (i + 1))), some (.int (nI (i + 1)))]) rfl ?_
        refine s_goto 4 (zdk hX9_fullOf 24 rfl) (by decide) ?_
        exact ih (i + 1) (by omega) (by omega)
      · have e1 : zfull g x (i + 1) = zfull g x i + gf g i 0 := if_pos c20
        refine s_aload_n (zdk hX9_fullOf 15 rfl) rfl ?_
        refine s_iload_n (zdk hX9_fullOf 16 rfl) rfl ?_
        refine s_iconstv (v := nI 0) (zdk hX9_fullOf 17 rfl) zc_iconst_0 ?_
        refine s_callV0 (ci := 9) [.int (nI i), .int (nI 0)] (zdk hX9_fullOf 18 rfl) cw_X9_211 (hm.1) (by decide) rfl rfl rfl (Nat.le_of_ble_eq_true rfl) (by decide) (c_X9_of hl (M := M) (g := g) hm (f := i) (k := 0) (by omega)) ?_
        refine s_goto 33 (zdk hX9_fullOf 19 rfl) (by decide) ?_
        refine s_iadd (zdk hX9_fullOf 21 rfl) ?_
        refine s_istore_n (zdk hX9_fullOf 22 rfl) (Nat.le_of_ble_eq_true rfl) ?_
        refine s_ls (ls' := [some (.ref 941), some (.int (x)), some (.int ((zfull g x i) + (gf g i 0))), some (.int (nI i))]) rfl ?_
        refine s_ls (ls' := [some (.ref 941), some (.int (x)), some (.int (zfull g x (i + 1))), some (.int (nI i))]) (by rw [e1]) ?_
        refine s_iinc (r := nI (i + 1)) (zdk hX9_fullOf 23 rfl) (Nat.le_of_ble_eq_true rfl) rfl (nI_1 _) ?_
        refine s_ls (ls' := [some (.ref 941), some (.int (x)), some (.int (zfull g x (i + 1))), some (.int (nI (i + 1)))]) rfl ?_
        refine s_goto 4 (zdk hX9_fullOf 24 rfl) (by decide) ?_
        exact ih (i + 1) (by omega) (by omega)
theorem c_X9_fullOf (hl : l.stackTraces = false) {M : zMem} (hm : mSh M) {g : Nat → Int64} (hb : gBd g) (x : Int32) : zCm l G mX9_fullOf 2 44 0 0 [.ref 941, .int (x)] (zsL M 942 g) (zD (some (.int (zfull g x (gN g 3)))) (zsL M 942 g)) := by
  refine zCd.of (ls0 := [some (.ref 941), some (.int (x)), none, none]) (by decide +kernel) rfl hl rfl (Nat.le_of_ble_eq_true rfl) rfl ?_
  refine s_iconstv (v := nI 0) (zdk hX9_fullOf 0 rfl) zc_iconst_0 ?_
  refine s_istore_n (zdk hX9_fullOf 1 rfl) (Nat.le_of_ble_eq_true rfl) ?_
  refine s_ls (ls' := [some (.ref 941), some (.int (x)), some (.int (nI 0)), none]) rfl ?_
  refine s_iconstv (v := nI 0) (zdk hX9_fullOf 2 rfl) zc_iconst_0 ?_
  refine s_istore_n (zdk hX9_fullOf 3 rfl) (Nat.le_of_ble_eq_true rfl) ?_
  refine s_ls (ls' := [some (.ref 941), some (.int (x)), some (.int (nI 0)), some (.int (nI 0))]) rfl ?_
  exact w_X9_fullOf_4 hl hm hb x (gN g 3 + 1) 0 (by omega) (by omega)
theorem c_X9_freeOn (hl : l.stackTraces = false) {M : zMem} (hm : mSh M) {g : Nat → Int64} (hb : gBd g) {t : Nat} (ht : t < 4) : zCm l G mX9_freeOn 3 70 0 0 [.ref 941, .int (nI t)] (zsL M 942 g) (zD (some (.int (gt g t 0 - zfull g (nI t) (gN g 3)))) (zsL M 942 g)) := by
  refine zCd.of (ls0 := [some (.ref 941), some (.int (nI t))]) (by decide +kernel) rfl hl rfl (Nat.le_of_ble_eq_true rfl) rfl ?_
  refine s_aload_n (zdk hX9_freeOn 0 rfl) rfl ?_
  refine s_iload_n (zdk hX9_freeOn 1 rfl) rfl ?_
  refine s_iconstv (v := nI 0) (zdk hX9_freeOn 2 rfl) zc_iconst_0 ?_
  refine s_callV0 (ci := 9) [.int (nI t), .int (nI 0)] (zdk hX9_freeOn 3 rfl) cw_X9_214 (hm.1) (by decide) rfl rfl rfl (Nat.le_of_ble_eq_true rfl) (by decide) (c_X9_ofTier hl (M := M) (g := g) hm (t := t) (k := 0) (by omega)) ?_
  refine s_aload_n (zdk hX9_freeOn 4 rfl) rfl ?_
  refine s_iload_n (zdk hX9_freeOn 5 rfl) rfl ?_
  refine s_callV0 (ci := 9) [.int (nI t)] (zdk hX9_freeOn 6 rfl) cw_X9_217 (hm.1) (by decide) rfl rfl rfl (Nat.le_of_ble_eq_true rfl) (by decide) (c_X9_fullOf hl (M := M) (g := g) hm hb (nI t)) ?_
  refine s_isub (zdk hX9_freeOn 7 rfl) ?_
  refine s_ireturn (zdk hX9_freeOn 8 rfl) rfl rfl ?_
  exact ⟨rfl, rfl⟩
theorem c_X9_isPinned (hl : l.stackTraces = false) {M : zMem} (hm : mSh M) {g : Nat → Int64} (hb : gBd g) (h4 : g 4 = (its g 4).toInt64) {f : Nat} (hf : f < 20) : zCm l G mX9_isPinned 2 44 0 0 [.ref 941, .int (nI f)] (zsL M 942 g) (zD (some (.int (if nI (gN g 4) < gf g f 3 then nI 1 else nI 0))) (zsL M 942 g)) := by
  refine zCd.of (ls0 := [some (.ref 941), some (.int (nI f))]) (by decide +kernel) rfl hl rfl (Nat.le_of_ble_eq_true rfl) rfl ?_
  refine s_aload_n (zdk hX9_isPinned 0 rfl) rfl ?_
  refine s_getR (zdk hX9_isPinned 1 rfl) fw_X9_7 rfl (hm.1) ((hm.r (i := 0) rfl).1) ?_
  refine s_iconstv (v := nI 4) (zdk hX9_isPinned 2 rfl) zc_iconst_4 ?_
  refine s_laloadN (N := 1390) (j := 4) (zdk hX9_isPinned 3 rfl) ((hm.r (i := 0) rfl).2.1) ((hm.r (i := 0) rfl).2.2) (by omega) (by decide) ?_
  refine s_topl (b := g 4) (congrFun zJ_Le _) ?_
  refine s_aload_n (zdk hX9_isPinned 4 rfl) rfl ?_
  refine s_iload_n (zdk hX9_isPinned 5 rfl) rfl ?_
  refine s_iconstv (v := nI 3) (zdk hX9_isPinned 6 rfl) zc_iconst_3 ?_
  refine s_callV0 (ci := 9) [.int (nI f), .int (nI 3)] (zdk hX9_isPinned 7 rfl) cw_X9_211 (hm.1) (by decide) rfl rfl rfl (Nat.le_of_ble_eq_true rfl) (by decide) (c_X9_of hl (M := M) (g := g) hm (f := f) (k := 3) (by omega)) ?_
  refine s_i2l (zdk hX9_isPinned 8 rfl) ?_
  refine s_lcmp (zdk hX9_isPinned 9 rfl) ?_
  refine s_if_ge 21 (zdk hX9_isPinned 10 rfl) (by decide) (fun c14 => ?_) (fun c14 => ?_)
  · have c : ¬ nI (gN g 4) < gf g f 3 := fun q => pinL h4 hb.h4 c14 q
    refine s_iconstv (v := nI 0) (zdk hX9_isPinned 13 rfl) zc_iconst_0 ?_
    refine s_ireturn (zdk hX9_isPinned 14 rfl) rfl rfl ?_
    first | (rw [if_neg c]; exact ⟨rfl, rfl⟩) | (rw [if_pos c]; exact ⟨rfl, rfl⟩)
  · have c : nI (gN g 4) < gf g f 3 := pinR h4 hb.h4 c14
    refine s_iconstv (v := nI 1) (zdk hX9_isPinned 11 rfl) zc_iconst_1 ?_
    refine s_goto 22 (zdk hX9_isPinned 12 rfl) (by decide) ?_
    refine s_ireturn (zdk hX9_isPinned 14 rfl) rfl rfl ?_
    first | (rw [if_neg c]; exact ⟨rfl, rfl⟩) | (rw [if_pos c]; exact ⟨rfl, rfl⟩)
end

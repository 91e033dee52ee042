/-! ===== the planner: shape, best, gains ===== -/
def nSh (M : zMem) (a : Nat) : Prop := zK M a = 4 ∧ zR M a 2 = some (a + 1) ∧ zR M a 3 = some (a + 2) ∧ zR M a 4 = some (a + 3) ∧ zR M a 5 = some (a + 4) ∧ (zR M a 6 = some (a + 5) ∧ zR M a 7 = some (a + 6)) ∧ zK M (a + 1) = 11 ∧ zN M (a + 1) = 20 ∧ zK M (a + 2) = 11 ∧ zN M (a + 2) = 20 ∧ zK M (a + 3) = 11 ∧ zN M (a + 3) = 20 ∧ zK M (a + 4) = 12 ∧ zN M (a + 4) = 80 ∧ zK M (a + 5) = 13 ∧ zN M (a + 5) = 20 ∧ zK M (a + 6) = 11 ∧ zN M (a + 6) = 4
abbrev zBt : Type := Int32 × Int32 × Int32 × Int64
def zMB (M : zMem) (a : Nat) (b : zBt) : zMem := zsJ (zsI (zsI (zsI M a 8 b.1) a 9 b.2.1) a 10 b.2.2.1) a 11 b.2.2.2
def zB (M : zMem) (a : Nat) : zBt := (zI M a 8, zI M a 9, zI M a 10, zJ M a 11)
theorem zu_zu {α : Type} (f : Nat → Nat → α) (a k : Nat) (v w : α) : zu (zu f a k v) a k w = zu f a k w := by
  funext b
  unfold zu
  by_cases q : b = a
  · simp only [q, if_true]
    funext j
    by_cases r : j = k <;> simp [r]
  · simp [q]
theorem zu_c {α : Type} (f : Nat → Nat → α) (a j k : Nat) (v w : α) (h : j ≠ k) : zu (zu f a j v) a k w = zu (zu f a k w) a j v := by
  funext b
  unfold zu
  by_cases q : b = a
  · simp only [q, if_true]
    funext i
    by_cases r : i = k
    · subst r
      simp [Ne.symm h]
    · simp [r]
  · simp [q]
theorem zu_id {α : Type} (f : Nat → Nat → α) (a k : Nat) : zu f a k (f a k) = f := by
  funext b
  unfold zu
  by_cases q : b = a
  · rw [if_pos q]
    funext j
    by_cases r : j = k
    · rw [if_pos r, q, r]
    · rw [if_neg r, q]
  · rw [if_neg q]
theorem zMB_zMB (M : zMem) (a : Nat) (b c : zBt) : zMB (zMB M a b) a c = zMB M a c := by
  unfold zMB zsJ zsI
  congr 1
  · show zu (zu (zu (zu (zu (zu M.1 a 8 b.1) a 9 b.2.1) a 10 b.2.2.1) a 8 c.1) a 9 c.2.1) a 10 c.2.2.1 = zu (zu (zu M.1 a 8 c.1) a 9 c.2.1) a 10 c.2.2.1
    rw [zu_c _ a 10 8 _ _ (by decide), zu_c _ a 9 8 _ _ (by decide), zu_zu, zu_c _ a 10 9 _ _ (by decide), zu_zu, zu_zu]
  · congr 1
    exact zu_zu _ _ _ _ _
theorem zMB_0 (M : zMem) (a : Nat) (x : Int64) : zsJ M a 11 x = zMB M a (zI M a 8, zI M a 9, zI M a 10, x) := by
  unfold zMB zsJ zsI
  congr 1
  show M.1 = zu (zu (zu M.1 a 8 (M.1 a 8)) a 9 (M.1 a 9)) a 10 (M.1 a 10)
  rw [zu_id, zu_id, zu_id]
theorem zMB_J {M : zMem} {a : Nat} {b : zBt} : zJ (zMB M a b) a 11 = b.2.2.2 := (congrFun zJ_Jw 11).trans zwL_e
theorem zMB_In {M : zMem} {a c : Nat} {b : zBt} (h : c ≠ a) : zI (zMB M a b) c = zI M c := by
  unfold zMB
  rw [zI_J, zI_In h, zI_In h, zI_In h]
theorem zMB_Jn {M : zMem} {a c : Nat} {b : zBt} (h : c ≠ a) : zJ (zMB M a b) c = zJ M c := by
  unfold zMB
  rw [zJ_Jn h, zJ_I, zJ_I, zJ_I]
theorem zag_MB {M : zMem} {a : Nat} {b : zBt} : zag M (zMB M a b) (fun c => c ≠ a) := ⟨rfl, fun c hc => ⟨zMB_In hc, zMB_Jn hc, rfl⟩⟩
/-- what a file saves by a move -/
def oGn (g : Nat → Int64) (f n : Nat) (t : Nat) : Int64 := if t = gN g (58 + 51 * f + 1) then lN 0 else zco g f (gN g (58 + 51 * f + 1)) (nI n) (zfsum g f n) - zco g f t (nI n) (zfsum g f n) - (zmc g f (gN g (58 + 51 * f + 1)) t).toInt64
def zgr (r gl : Nat → Int64) (f : Nat) : Nat → Nat → Int64
  | 0 => r
  | t + 1 => zwL (zgr r gl f t) (f * 4 + t) (gl t)
theorem zgr_n {r gl : Nat → Int64} {f k : Nat} : ∀ n, n ≤ 4 → (k < f * 4 ∨ f * 4 + 4 ≤ k) → zgr r gl f n k = r k
  | 0, _, _ => rfl
  | n + 1, h, hk => by unfold zgr; rw [zwL_n (by omega)]; exact zgr_n n (by omega) hk
theorem zgr_y {r gl : Nat → Int64} {f t : Nat} : ∀ n, t < n → zgr r gl f n (f * 4 + t) = gl t
  | 0, h => absurd h (by omega)
  | n + 1, h => by
    unfold zgr
    by_cases q : t = n
    · rw [q, zwL_e]
    · rw [zwL_n (by omega)]; exact zgr_y n (by omega)
section
variable {l : Launch} {G : zG}
theorem c_X3_setBest (hl : l.stackTraces = false) {M : zMem} {a : Nat} (ha : nSh M a) (f o t : Int32) (x : Int64) : zCm l G mX3_setBest 0 0 0 0 [.ref a, .int f, .int o, .int t, .long x] M (zD none (zMB M a (f, o, t, x))) := by
  refine zCd.of (ls0 := [some (.ref a), some (.int (f)), some (.int (o)), some (.int (t)), some (.long (x)), none]) (by decide +kernel) rfl hl rfl (Nat.le_of_ble_eq_true rfl) rfl ?_
  refine s_aload_n (zdk hX3_setBest 0 rfl) rfl ?_
  refine s_iload_n (zdk hX3_setBest 1 rfl) rfl ?_
  refine s_putI (zdk hX3_setBest 2 rfl) fw_X3_40 rfl pw_3_8 (ha.1) ?_
  refine s_aload_n (zdk hX3_setBest 3 rfl) rfl ?_
  refine s_iload_n (zdk hX3_setBest 4 rfl) rfl ?_
  refine s_putI (zdk hX3_setBest 5 rfl) fw_X3_43 rfl pw_3_9 (ha.1) ?_
  refine s_aload_n (zdk hX3_setBest 6 rfl) rfl ?_
  refine s_iload_n (zdk hX3_setBest 7 rfl) rfl ?_
  refine s_putI (zdk hX3_setBest 8 rfl) fw_X3_46 rfl pw_3_10 (ha.1) ?_
  refine s_aload_n (zdk hX3_setBest 9 rfl) rfl ?_
  refine s_lload (zdk hX3_setBest 10 rfl) rfl ?_
  refine s_putJ (zdk hX3_setBest 11 rfl) fw_X3_49 rfl pw_3_11 (ha.1) ?_
  refine s_return (zdk hX3_setBest 12 rfl) rfl ?_
  exact ⟨rfl, rfl⟩
def zTk (M : zMem) (a f fr to : Nat) (sz : Int32) : zMem := zsI (zsI (zsI M (a + 5) f (nI 0)) (a + 6) fr (zI (zsI M (a + 5) f (nI 0)) (a + 6) fr + sz)) (a + 6) to (zI (zsI (zsI M (a + 5) f (nI 0)) (a + 6) fr (zI (zsI M (a + 5) f (nI 0)) (a + 6) fr + sz)) (a + 6) to - sz)
theorem c_X3_takeAway (hl : l.stackTraces = false) {M : zMem} {a : Nat} (ha : nSh M a) {f fr to : Nat} (hf : f < 20) (h1 : fr < 4) (h2 : to < 4) (sz : Int32) : zCm l G mX3_takeAway 0 0 0 0 [.ref a, .int (nI f), .int sz, .int (nI fr), .int (nI to)] M (zD none (zTk M a f fr to sz)) := by
  refine zCd.of (ls0 := [some (.ref a), some (.int (nI f)), some (.int (sz)), some (.int (nI fr)), some (.int (nI to))]) (by decide +kernel) rfl hl rfl (Nat.le_of_ble_eq_true rfl) rfl ?_
  refine s_aload_n (zdk hX3_takeAway 0 rfl) rfl ?_
  refine s_getR (zdk hX3_takeAway 1 rfl) fw_X3_33 rfl (ha.1) (ha.2.2.2.2.2.1.1) ?_
  refine s_iload_n (zdk hX3_takeAway 2 rfl) rfl ?_
  refine s_iconstv (v := nI 0) (zdk hX3_takeAway 3 rfl) zc_iconst_0 ?_
  refine s_bastoreN (N := 20) (j := f) (zdk hX3_takeAway 4 rfl) (ha.2.2.2.2.2.2.2.2.2.2.2.2.2.2.1) (ha.2.2.2.2.2.2.2.2.2.2.2.2.2.2.2.1) (hf) (by decide) (by decide) ?_
  refine s_aload_n (zdk hX3_takeAway 5 rfl) rfl ?_
  refine s_getR (zdk hX3_takeAway 6 rfl) fw_X3_37 rfl (ha.1) (ha.2.2.2.2.2.1.2) ?_
  refine s_iload_n (zdk hX3_takeAway 7 rfl) rfl ?_
  refine s_dup2ir (zdk hX3_takeAway 8 rfl) ?_
  refine s_ialoadN (N := 4) (j := fr) (zdk hX3_takeAway 9 rfl) (ha.2.2.2.2.2.2.2.2.2.2.2.2.2.2.2.2.1) (ha.2.2.2.2.2.2.2.2.2.2.2.2.2.2.2.2.2) (h1) (by decide) ?_
  refine s_iload_n (zdk hX3_takeAway 10 rfl) rfl ?_
  refine s_iadd (zdk hX3_takeAway 11 rfl) ?_
  refine s_iastoreN (N := 4) (j := fr) (zdk hX3_takeAway 12 rfl) (ha.2.2.2.2.2.2.2.2.2.2.2.2.2.2.2.2.1) (ha.2.2.2.2.2.2.2.2.2.2.2.2.2.2.2.2.2) (h1) (by decide) ?_
  refine s_aload_n (zdk hX3_takeAway 13 rfl) rfl ?_
  refine s_getR (zdk hX3_takeAway 14 rfl) fw_X3_37 rfl (ha.1) (ha.2.2.2.2.2.1.2) ?_
  refine s_iload (zdk hX3_takeAway 15 rfl) rfl ?_
  refine s_dup2ir (zdk hX3_takeAway 16 rfl) ?_
  refine s_ialoadN (N := 4) (j := to) (zdk hX3_takeAway 17 rfl) (ha.2.2.2.2.2.2.2.2.2.2.2.2.2.2.2.2.1) (ha.2.2.2.2.2.2.2.2.2.2.2.2.2.2.2.2.2) (h2) (by decide) ?_
  refine s_iload_n (zdk hX3_takeAway 18 rfl) rfl ?_
  refine s_isub (zdk hX3_takeAway 19 rfl) ?_
  refine s_iastoreN (N := 4) (j := to) (zdk hX3_takeAway 20 rfl) (ha.2.2.2.2.2.2.2.2.2.2.2.2.2.2.2.2.1) (ha.2.2.2.2.2.2.2.2.2.2.2.2.2.2.2.2.2) (h2) (by decide) ?_
  refine s_return (zdk hX3_takeAway 21 rfl) rfl ?_
  exact ⟨rfl, rfl⟩
theorem w_X3_findGains_34 (hl : l.stackTraces = false) {M : zMem} {a s : Nat} {g : Nat → Int64} {p : Nat → Nat} (ha : nSh M a) (h : rSt M s g p) (hd : a + 7 ≤ s ∨ s + 77 ≤ a) {f n : Nat} (hf : f < gN g 3) (hn : n ≤ 24) : ∀ (k : Nat) (i : Nat), i ≤ gN g 2 → gN g 2 - i < k → zS l G mX3_findGains 2 70 0 0 34 [some (.ref a), some (.ref s), some (.int (nI f)), some (.int (nI n)), some (.int (nI (gN g (58 + 51 * f + 1)))), some (.long (zfsum g f n)), none, some (.long (zco g f (gN g (58 + 51 * f + 1)) (nI n) (zfsum g f n))), none, some (.int (nI i))] [] (zsL M (a + 4) (zgr (zJ M (a + 4)) (oGn g f n) f i)) (zD none (zsL M (a + 4) (zgr (zJ M (a + 4)) (oGn g f n) f (gN g 2)))) := by
  intro k
  induction k with
  | zero => intros; omega
  | succ k ih =>
    intro i hi hk
    have hF := h.b.2.2.1.2
    have hT := h.b.2.1.2
    have h2 : rSt (zsL M (a + 4) (zgr (zJ M (a + 4)) (oGn g f n) f i)) s g p := h.keep ((zag_L _ _ _).mono fun b hb => by omega)
    refine s_iload (zdk hX3_findGains 20 rfl) rfl ?_
    refine s_aload_n (zdk hX3_findGains 21 rfl) rfl ?_
    refine s_getI (zdk hX3_findGains 22 rfl) fw_X3_64 rfl (h2.K) ?_
    refine s_topi (b := nI (gN g 2)) (h2.v3) ?_
    refine s_icmp_ge 95 (zdk hX3_findGains 23 rfl) (by decide) (fun c40 => ?_) (fun c40 => ?_)
    · obtain rfl : i = (gN g 2) := by have := nle c40 (by omega) (by omega); omega
      refine s_return (zdk hX3_findGains 54 rfl) rfl ?_
      exact ⟨rfl, rfl⟩
    · have hi2 : i < (gN g 2) := nlt c40 (by omega) (by omega)
      refine s_aload_n (zdk hX3_findGains 24 rfl) rfl ?_
      refine s_getR (zdk hX3_findGains 25 rfl) fw_X3_29 rfl (ha.1) (ha.2.2.2.2.1) ?_
      refine s_iload_n (zdk hX3_findGains 26 rfl) rfl ?_
      refine s_iconstv (v := nI 4) (zdk hX3_findGains 27 rfl) zc_iconst_4 ?_
      refine s_imul (zdk hX3_findGains 28 rfl) ?_
      refine s_topi (b := nI (f * 4)) (pk_mul _ _) ?_
      refine s_iload (zdk hX3_findGains 29 rfl) rfl ?_
      refine s_iadd (zdk hX3_findGains 30 rfl) ?_
      refine s_topi (b := nI (f * 4 + i)) (nI_add _ _) ?_
      refine s_iload (zdk hX3_findGains 31 rfl) rfl ?_
      refine s_iload (zdk hX3_findGains 32 rfl) rfl ?_
      refine s_icmp_ne 64 (zdk hX3_findGains 33 rfl) (by decide) (fun c57 => ?_) (fun c57 => ?_)
      · have e1 : oGn g f n i = zco g f (gN g (58 + 51 * f + 1)) (nI n) (zfsum g f n) - zco g f i (nI n) (zfsum g f n) - (zmc g f (gN g (58 + 51 * f + 1)) i).toInt64 := if_neg (nne c57)
        refine s_lload (zdk hX3_findGains 36 rfl) rfl ?_
        refine s_aload_n (zdk hX3_findGains 37 rfl) rfl ?_
        refine s_iload_n (zdk hX3_findGains 38 rfl) rfl ?_
        refine s_iload (zdk hX3_findGains 39 rfl) rfl ?_
        refine s_iload_n (zdk hX3_findGains 40 rfl) rfl ?_
        refine s_lload (zdk hX3_findGains 41 rfl) rfl ?_
        refine s_callV0 (ci := 5) [.int (nI f), .int (nI i), .int (nI n), .long (zfsum g f n)] (zdk hX3_findGains 42 rfl) cw_X3_115 (h2.K) (by decide) rfl rfl rfl (Nat.le_of_ble_eq_true rfl) (by decide) (c_X5_costOn hl h2 hf hi2 (nI n) _) ?_
        refine s_lsub (zdk hX3_findGains 43 rfl) ?_
        refine s_aload_n (zdk hX3_findGains 44 rfl) rfl ?_
        refine s_iload_n (zdk hX3_findGains 45 rfl) rfl ?_
        refine s_iload (zdk hX3_findGains 46 rfl) rfl ?_
        refine s_iload (zdk hX3_findGains 47 rfl) rfl ?_
        refine s_callV0 (ci := 5) [.int (nI f), .int (nI (gN g (58 + 51 * f + 1))), .int (nI i)] (zdk hX3_findGains 48 rfl) cw_X3_119 (h2.K) (by decide) rfl rfl rfl (Nat.le_of_ble_eq_true rfl) (by decide) (c_X5_moveCost hl h2 hf (h.b.onL hf) hi2) ?_
        refine s_i2l (zdk hX3_findGains 49 rfl) ?_
        refine s_lsub (zdk hX3_findGains 50 rfl) ?_
        refine s_lastoreN (N := 80) (j := (f * 4 + i)) (zdk hX3_findGains 51 rfl) (ha.2.2.2.2.2.2.2.2.2.2.2.2.1) (ha.2.2.2.2.2.2.2.2.2.2.2.2.2.1) (by omega) (by decide) ?_
        refine s_mem (M' := (zsL M (a + 4) (zgr (zJ M (a + 4)) (oGn g f n) f (i + 1)))) ((zsL_1 _ _ _ _ _).trans (zsL_g (by rw [← e1]; rfl))) ?_
        refine s_iinc (r := nI (i + 1)) (zdk hX3_findGains 52 rfl) (Nat.le_of_ble_eq_true rfl) rfl (nI_1 i) ?_
        refine s_ls (ls' := [some (.ref a), some (.ref s), some (.int (nI f)), some (.int (nI n)), some (.int (nI (gN g (58 + 51 * f + 1)))), some (.long (zfsum g f n)), none, some (.long (zco g f (gN g (58 + 51 * f + 1)) (nI n) (zfsum g f n))), none, some (.int (nI (i + 1)))]) rfl ?_
        refine s_goto 34 (zdk hX3_findGains 53 rfl) (by decide) ?_
        exact ih (i + 1) (by omega) (by omega)
      · have e1 : oGn g f n i = lN 0 := if_pos (neq c57 (by omega) (by have := h.b.onL hf; omega))
        refine s_lconstv (v := lN 0) (zdk hX3_findGains 34 rfl) rfl ?_
        refine s_goto 88 (zdk hX3_findGains 35 rfl) (by decide) ?_
        refine s_lastoreN (N := 80) (j := (f * 4 + i)) (zdk hX3_findGains 51 rfl) (ha.2.2.2.2.2.2.2.2.2.2.2.2.1) (ha.2.2.2.2.2.2.2.2.2.2.2.2.2.1) (by omega) (by decide) ?_
        refine s_mem (M' := (zsL M (a + 4) (zgr (zJ M (a + 4)) (oGn g f n) f (i + 1)))) ((zsL_1 _ _ _ _ _).trans (zsL_g (by rw [← e1]; rfl))) ?_
        refine s_iinc (r := nI (i + 1)) (zdk hX3_findGains 52 rfl) (Nat.le_of_ble_eq_true rfl) rfl (nI_1 i) ?_
        refine s_ls (ls' := [some (.ref a), some (.ref s), some (.int (nI f)), some (.int (nI n)), some (.int (nI (gN g (58 + 51 * f + 1)))), some (.long (zfsum g f n)), none, some (.long (zco g f (gN g (58 + 51 * f + 1)) (nI n) (zfsum g f n))), none, some (.int (nI (i + 1)))]) rfl ?_
        refine s_goto 34 (zdk hX3_findGains 53 rfl) (by decide) ?_
        exact ih (i + 1) (by omega) (by omega)
theorem c_X3_findGains (hl : l.stackTraces = false) {M : zMem} {a s : Nat} {g : Nat → Int64} {p : Nat → Nat} (ha : nSh M a) (h : rSt M s g p) (hd : a + 7 ≤ s ∨ s + 77 ≤ a) {f n : Nat} (hf : f < gN g 3) (hn : n ≤ 24) : zCm l G mX3_findGains 2 70 0 0 [.ref a, .ref s, .int (nI f), .int (nI n)] M (zD none (zsL M (a + 4) (zgr (zJ M (a + 4)) (oGn g f n) f (gN g 2)))) := by
  refine zCd.of (ls0 := [some (.ref a), some (.ref s), some (.int (nI f)), some (.int (nI n)), none, none, none, none, none, none]) (by decide +kernel) rfl hl rfl (Nat.le_of_ble_eq_true rfl) rfl ?_
  refine s_aload_n (zdk hX3_findGains 0 rfl) rfl ?_
  refine s_getR (zdk hX3_findGains 1 rfl) fw_X3_80 rfl (h.K) (h.r6) ?_
  refine s_iload_n (zdk hX3_findGains 2 rfl) rfl ?_
  refine s_aaloadN (N := 20) (j := f) (zdk hX3_findGains 3 rfl) (h.fK) (by decide) (h.fN) (h.fL hf) (by decide) (h.rR hf) ?_
  refine s_getI (zdk hX3_findGains 4 rfl) fw_X3_104 rfl ((h.rS hf).1) ?_
  refine s_topi (b := nI (gN g (58 + 51 * f + 1))) ((h.f2 hf).trans (h.b.on hf)) ?_
  refine s_istore (zdk hX3_findGains 5 rfl) (Nat.le_of_ble_eq_true rfl) ?_
  refine s_ls (ls' := [some (.ref a), some (.ref s), some (.int (nI f)), some (.int (nI n)), some (.int (nI (gN g (58 + 51 * f + 1)))), none, none, none, none, none]) rfl ?_
  refine s_aload_n (zdk hX3_findGains 6 rfl) rfl ?_
  refine s_iload_n (zdk hX3_findGains 7 rfl) rfl ?_
  refine s_iload_n (zdk hX3_findGains 8 rfl) rfl ?_
  refine s_callV0 (ci := 5) [.int (nI f), .int (nI n)] (zdk hX3_findGains 9 rfl) cw_X3_111 (h.K) (by decide) rfl rfl rfl (Nat.le_of_ble_eq_true rfl) (by decide) (c_X5_forecastSum hl h hf hn) ?_
  refine s_lstore (zdk hX3_findGains 10 rfl) (Nat.le_of_ble_eq_true rfl) ?_
  refine s_ls (ls' := [some (.ref a), some (.ref s), some (.int (nI f)), some (.int (nI n)), some (.int (nI (gN g (58 + 51 * f + 1)))), some (.long (zfsum g f n)), none, none, none, none]) rfl ?_
  refine s_aload_n (zdk hX3_findGains 11 rfl) rfl ?_
  refine s_iload_n (zdk hX3_findGains 12 rfl) rfl ?_
  refine s_iload (zdk hX3_findGains 13 rfl) rfl ?_
  refine s_iload_n (zdk hX3_findGains 14 rfl) rfl ?_
  refine s_lload (zdk hX3_findGains 15 rfl) rfl ?_
  refine s_callV0 (ci := 5) [.int (nI f), .int (nI (gN g (58 + 51 * f + 1))), .int (nI n), .long (zfsum g f n)] (zdk hX3_findGains 16 rfl) cw_X3_115 (h.K) (by decide) rfl rfl rfl (Nat.le_of_ble_eq_true rfl) (by decide) (c_X5_costOn hl h hf (h.b.onL hf) (nI n) _) ?_
  refine s_lstore (zdk hX3_findGains 17 rfl) (Nat.le_of_ble_eq_true rfl) ?_
  refine s_ls (ls' := [some (.ref a), some (.ref s), some (.int (nI f)), some (.int (nI n)), some (.int (nI (gN g (58 + 51 * f + 1)))), some (.long (zfsum g f n)), none, some (.long (zco g f (gN g (58 + 51 * f + 1)) (nI n) (zfsum g f n))), none, none]) rfl ?_
  refine s_iconstv (v := nI 0) (zdk hX3_findGains 18 rfl) zc_iconst_0 ?_
  refine s_istore (zdk hX3_findGains 19 rfl) (Nat.le_of_ble_eq_true rfl) ?_
  refine s_ls (ls' := [some (.ref a), some (.ref s), some (.int (nI f)), some (.int (nI n)), some (.int (nI (gN g (58 + 51 * f + 1)))), some (.long (zfsum g f n)), none, some (.long (zco g f (gN g (58 + 51 * f + 1)) (nI n) (zfsum g f n))), none, some (.int (nI 0))]) rfl ?_
  have hq := w_X3_findGains_34 (l := l) (G := G) hl ha h hd hf hn (gN g 2 + 1) 0 (by omega) (by omega)
  rw [show (zsL M (a + 4) (zgr (zJ M (a + 4)) (oGn g f n) f 0)) = M from zsL_id _ _] at hq
  exact hq
end

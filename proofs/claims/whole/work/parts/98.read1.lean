/-! ===== the reference reads: the next token ===== -/
theorem zrb_32n {u : Nat → Int32} {n i : Nat} (h : ¬ zrb u n i = nI 32) : n ≤ i ∨ ¬ u i = nI 32 := by
  by_cases q : i < n
  · rw [show zrb u n i = u i from if_pos q] at h
    exact Or.inr h
  · exact Or.inl (by omega)
theorem zrb_32y {u : Nat → Int32} {n i : Nat} (h : zrb u n i = nI 32) : i < n ∧ u i = nI 32 := by
  by_cases q : i < n
  · rw [show zrb u n i = u i from if_pos q] at h
    exact ⟨q, h⟩
  · rw [show zrb u n i = -1 from if_neg q] at h
    exact absurd h (by decide)
theorem zrb_Ln {u : Nat → Int32} {n i : Nat} (h : ¬ (nI 97 ≤ zrb u n i ∧ zrb u n i ≤ nI 122)) : n ≤ i ∨ ¬ (nI 97 ≤ u i ∧ u i ≤ nI 122) := by
  by_cases q : i < n
  · rw [show zrb u n i = u i from if_pos q] at h
    exact Or.inr h
  · exact Or.inl (by omega)
theorem zrb_Ly {u : Nat → Int32} {n i : Nat} (h : nI 97 ≤ zrb u n i ∧ zrb u n i ≤ nI 122) : i < n ∧ (nI 97 ≤ u i ∧ u i ≤ nI 122) := by
  by_cases q : i < n
  · rw [show zrb u n i = u i from if_pos q] at h
    exact ⟨q, h⟩
  · rw [show zrb u n i = -1 from if_neg q] at h
    exact absurd h.1 (by decide)
theorem zrb_Dn {u : Nat → Int32} {n i : Nat} (h : ¬ (nI 48 ≤ zrb u n i ∧ zrb u n i ≤ nI 57)) : n ≤ i ∨ ¬ (nI 48 ≤ u i ∧ u i ≤ nI 57) := by
  by_cases q : i < n
  · rw [show zrb u n i = u i from if_pos q] at h
    exact Or.inr h
  · exact Or.inl (by omega)
theorem zrb_Dy {u : Nat → Int32} {n i : Nat} (h : nI 48 ≤ zrb u n i ∧ zrb u n i ≤ nI 57) : i < n ∧ (nI 48 ≤ u i ∧ u i ≤ nI 57) := by
  by_cases q : i < n
  · rw [show zrb u n i = u i from if_pos q] at h
    exact ⟨q, h⟩
  · rw [show zrb u n i = -1 from if_neg q] at h
    exact absurd h.1 (by decide)
def zrR (u : Nat → Int32) : Nat → Nat → Int32 → Nat × Int32
  | 0, i, x => (i, x)
  | k + 1, i, x => if nI 48 ≤ u i ∧ u i ≤ nI 57 then zrR u k (i + 1) (zmi (nI 1000000) (nI 10 * x + u i - nI 48)) else (i, x)
theorem zrR_y {u : Nat → Int32} {n i : Nat} {x : Int32} (h : i < n) (e : nI 48 ≤ u i ∧ u i ≤ nI 57) : zrR u (n - i) i x = zrR u (n - (i + 1)) (i + 1) (zmi (nI 1000000) (nI 10 * x + u i - nI 48)) := by
  conv => lhs; rw [show n - i = (n - (i + 1)) + 1 by omega]
  exact if_pos e
theorem zrR_n {u : Nat → Int32} {n i : Nat} {x : Int32} (e : n ≤ i ∨ ¬ (nI 48 ≤ u i ∧ u i ≤ nI 57)) : zrR u (n - i) i x = (i, x) := by
  by_cases h : n ≤ i
  · rw [show n - i = 0 by omega]; rfl
  · rw [show n - i = (n - (i + 1)) + 1 by omega]
    exact if_neg (by rcases e with e | e; exact absurd e h; exact e)
theorem zsk_in {u : Nat → Int32} {n : Nat} : ∀ k i, i ≤ zsk u n k i ∧ zsk u n k i ≤ i + k
  | 0, i => ⟨Nat.le_refl _, Nat.le_refl _⟩
  | k + 1, i => by
    have := zsk_in (u := u) (n := n) k (i + 1)
    unfold zsk
    split <;> omega
theorem zew_in {u : Nat → Int32} {n : Nat} : ∀ k i, i ≤ zew u n k i ∧ zew u n k i ≤ i + k
  | 0, i => ⟨Nat.le_refl _, Nat.le_refl _⟩
  | k + 1, i => by
    have := zew_in (u := u) (n := n) k (i + 1)
    unfold zew
    split <;> omega
theorem zrR_in {u : Nat → Int32} : ∀ k i x, i ≤ (zrR u k i x).1 ∧ (zrR u k i x).1 ≤ i + k
  | 0, i, x => ⟨Nat.le_refl _, Nat.le_refl _⟩
  | k + 1, i, x => by
    have := zrR_in (u := u) k (i + 1) (zmi (nI 1000000) (nI 10 * x + u i - nI 48))
    unfold zrR
    split
    · omega
    · exact ⟨Nat.le_refl i, Nat.le_add_right i _⟩
/-- the token that begins at j -/
def rTk (u : Nat → Int32) (n j : Nat) (q : Int32 × Int32) : rRd :=
  if n ≤ j then (j, j, 3, nI 0, q) else if nI 97 ≤ u j ∧ u j ≤ nI 122 then (j, zew u n (n - j) j, 0, nI 0, q) else if nI 48 ≤ u j ∧ u j ≤ nI 57 then (j, (zrR u (n - j) j (nI 0)).1, 1, (zrR u (n - j) j (nI 0)).2, q) else (j, j + 1, 2, nI 0, q)
def rNx (u : Nat → Int32) (n : Nat) (r : rRd) : rRd := rTk u n (zsk u n (n - r.2.1) r.2.1) r.2.2.2.2
section
variable {l : Launch} {G : zG}
theorem w_X9_next_8 (hl : l.stackTraces = false) {M : zMem} (hm : mSh M) {g : Nat → Int64} {u : Nat → Int32} (hu : zI M 947 = u) {n : Nat} (hn : zI M 941 8 = nI n) (hn6 : n ≤ 600) {b k0 : Nat} {x w p : Int32} {Q : zOut → zMem → Prop} : ∀ (k : Nat) (i : Nat), zS l G mX9_next 2 90 0 0 34 [some (.ref 941)] [] (zsL (rdM M (zsk u n (n - i) i, b, k0, x, w, p)) 942 g) Q → i ≤ n → n - i < k → zS l G mX9_next 2 90 0 0 8 [some (.ref 941)] [] (zsL (rdM M (i, b, k0, x, w, p)) 942 g) Q := by
  intro k
  induction k with
  | zero => intros; omega
  | succ k ih =>
    intro i kk hi hk
    refine s_aload_n (zdk hX9_next_0 4 rfl) rfl ?_
    refine s_aload_n (zdk hX9_next_0 5 rfl) rfl ?_
    refine s_getI (zdk hX9_next_0 6 rfl) fw_X9_104 rfl (hm.1) ?_
    refine s_topi (b := nI i) (show zI (rdM M (i, b, k0, x, w, p)) 941 9 = _ from rd_at) ?_
    refine s_callV0 (ci := 9) [.int (nI i)] (zdk hX9_next_0 7 rfl) cw_X9_98 (hm.1) (by decide) rfl rfl rfl (Nat.le_of_ble_eq_true rfl) (by decide) (c_X9_see hl hm hu hn hn6 (j := i) (by omega)) ?_
    refine s_bipushv (v := nI 32) (zdk hX9_next_0 8 rfl) zc_bipush_32 ?_
    refine s_icmp_ne 34 (zdk hX9_next_0 9 rfl) (by decide) (fun c18 => ?_) (fun c18 => ?_)
    · rw [zsk_n (zrb_32n c18)] at kk
      exact kk
    · have q := zrb_32y c18
      have q1 := q.1
      rw [zsk_y q.1 q.2] at kk
      refine s_aload_n (zdk hX9_next_0 10 rfl) rfl ?_
      refine s_dupr (zdk hX9_next_0 11 rfl) ?_
      refine s_getI (zdk hX9_next_0 12 rfl) fw_X9_104 rfl (hm.1) ?_
      refine s_topi (b := nI i) (show zI (rdM M (i, b, k0, x, w, p)) 941 9 = _ from rd_at) ?_
      refine s_iconstv (v := nI 1) (zdk hX9_next_0 13 rfl) zc_iconst_1 ?_
      refine s_iadd (zdk hX9_next_0 14 rfl) ?_
      refine s_topi (b := nI (i + 1)) (nI_add _ _) ?_
      refine s_putI (zdk hX9_next_0 15 rfl) fw_X9_104 rfl pw_9_9 (hm.1) ?_
      refine s_mem (M' := (zsL (rdM M (i + 1, b, k0, x, w, p)) 942 g)) ((show zsL (zsI (rdM M (i, b, k0, x, w, p)) 941 9 (nI (i + 1))) 942 g = _ from congrArg (fun q => zsL q 942 g) rd_at!)) ?_
      refine s_goto 8 (zdk hX9_next_0 16 rfl) (by decide) ?_
      exact ih (i + 1) kk (by omega) (by omega)
theorem w_X9_next_77 (hl : l.stackTraces = false) {M : zMem} (hm : mSh M) {g : Nat → Int64} {u : Nat → Int32} (hu : zI M 947 = u) {n : Nat} (hn : zI M 941 8 = nI n) (hn6 : n ≤ 600) {j k0 : Nat} {x w p : Int32} {Q : zOut → zMem → Prop} : ∀ (k : Nat) (i : Nat), zS l G mX9_next 2 90 0 0 101 [some (.ref 941)] [] (zsL (rdM M (j, zew u n (n - i) i, k0, x, w, p)) 942 g) Q → i ≤ n → n - i < k → zS l G mX9_next 2 90 0 0 77 [some (.ref 941)] [] (zsL (rdM M (j, i, k0, x, w, p)) 942 g) Q := by
  intro k
  induction k with
  | zero => intros; omega
  | succ k ih =>
    intro i kk hi hk
    refine s_aload_n (zdk hX9_next_0 38 rfl) rfl ?_
    refine s_aload_n (zdk hX9_next_0 39 rfl) rfl ?_
    refine s_getI (zdk hX9_next_0 40 rfl) fw_X9_101 rfl (hm.1) ?_
    refine s_topi (b := nI i) (show zI (rdM M (j, i, k0, x, w, p)) 941 10 = _ from rd_be) ?_
    refine s_callV0 (ci := 9) [.int (nI i)] (zdk hX9_next_0 41 rfl) cw_X9_113 (hm.1) (by decide) rfl rfl rfl (Nat.le_of_ble_eq_true rfl) (by decide) (c_X9_isLetter hl hm hu hn hn6 (j := i) (by omega)) ?_
    refine s_if_eq 101 (zdk hX9_next_0 42 rfl) (by decide) (fun c85 => ?_) (fun c85 => ?_)
    · have b85 : ¬ (nI 97 ≤ zrb u n i ∧ zrb u n i ≤ nI 122) := b01_eq c85
      rw [zew_n (zrb_Ln b85)] at kk
      exact kk
    · have b85 : nI 97 ≤ zrb u n i ∧ zrb u n i ≤ nI 122 := b01_ne c85
      have q := zrb_Ly b85
      have q1 := q.1
      rw [zew_y q.1 q.2] at kk
      refine s_aload_n (zdk hX9_next_0 43 rfl) rfl ?_
      refine s_dupr (zdk hX9_next_0 44 rfl) ?_
      refine s_getI (zdk hX9_next_0 45 rfl) fw_X9_101 rfl (hm.1) ?_
      refine s_topi (b := nI i) (show zI (rdM M (j, i, k0, x, w, p)) 941 10 = _ from rd_be) ?_
      refine s_iconstv (v := nI 1) (zdk hX9_next_0 46 rfl) zc_iconst_1 ?_
      refine s_iadd (zdk hX9_next_0 47 rfl) ?_
      refine s_topi (b := nI (i + 1)) (nI_add _ _) ?_
      refine s_putI (zdk hX9_next_0 48 rfl) fw_X9_101 rfl pw_9_10 (hm.1) ?_
      refine s_mem (M' := (zsL (rdM M (j, i + 1, k0, x, w, p)) 942 g)) ((show zsL (zsI (rdM M (j, i, k0, x, w, p)) 941 10 (nI (i + 1))) 942 g = _ from congrArg (fun q => zsL q 942 g) rd_be!)) ?_
      refine s_goto 77 (zdk hX9_next_0 49 rfl) (by decide) ?_
      exact ih (i + 1) kk (by omega) (by omega)
theorem w_X9_next_120 (hl : l.stackTraces = false) {M : zMem} (hm : mSh M) {g : Nat → Int64} {u : Nat → Int32} (hu : zI M 947 = u) {n : Nat} (hn : zI M 941 8 = nI n) (hn6 : n ≤ 600) {j k0 : Nat} {w p : Int32} {Q : zOut → zMem → Prop} : ∀ (k : Nat) (i : Nat) (x : Int32), zS l G mX9_next 2 90 0 0 172 [some (.ref 941)] [] (zsL (rdM M (j, (zrR u (n - i) i x).1, k0, (zrR u (n - i) i x).2, w, p)) 942 g) Q → i ≤ n → n - i < k → zS l G mX9_next 2 90 0 0 120 [some (.ref 941)] [] (zsL (rdM M (j, i, k0, x, w, p)) 942 g) Q := by
  intro k
  induction k with
  | zero => intros; omega
  | succ k ih =>
    intro i x kk hi hk
    refine s_aload_n (zdk hX9_next_0 59 rfl) rfl ?_
    refine s_aload_n (zdk hX9_next_1 0 rfl) rfl ?_
    refine s_getI (zdk hX9_next_1 1 rfl) fw_X9_101 rfl (hm.1) ?_
    refine s_topi (b := nI i) (show zI (rdM M (j, i, k0, x, w, p)) 941 10 = _ from rd_be) ?_
    refine s_callV0 (ci := 9) [.int (nI i)] (zdk hX9_next_1 2 rfl) cw_X9_117 (hm.1) (by decide) rfl rfl rfl (Nat.le_of_ble_eq_true rfl) (by decide) (c_X9_isDigit hl hm hu hn hn6 (j := i) (by omega)) ?_
    refine s_if_eq 172 (zdk hX9_next_1 3 rfl) (by decide) (fun c128 => ?_) (fun c128 => ?_)
    · have b128 : ¬ (nI 48 ≤ zrb u n i ∧ zrb u n i ≤ nI 57) := b01_eq c128
      rw [zrR_n (zrb_Dn b128)] at kk
      exact kk
    · have b128 : nI 48 ≤ zrb u n i ∧ zrb u n i ≤ nI 57 := b01_ne c128
      have q := zrb_Dy b128
      have q1 := q.1
      rw [zrR_y q.1 q.2] at kk
      have qu : zrb u n i = u i := if_pos q1
      refine s_aload_n (zdk hX9_next_1 4 rfl) rfl ?_
      refine s_ldc (zdk hX9_next_1 5 rfl) kw_X9_120 ?_
      refine s_topi (b := nI 1000000) (by decide) ?_
      refine s_bipushv (v := nI 10) (zdk hX9_next_1 6 rfl) zc_bipush_10 ?_
      refine s_aload_n (zdk hX9_next_1 7 rfl) rfl ?_
      refine s_getI (zdk hX9_next_1 8 rfl) fw_X9_107 rfl (hm.1) ?_
      refine s_topi (b := x) (show zI (rdM M (j, i, k0, x, w, p)) 941 12 = _ from rd_nu) ?_
      refine s_imul (zdk hX9_next_1 9 rfl) ?_
      refine s_aload_n (zdk hX9_next_1 10 rfl) rfl ?_
      refine s_aload_n (zdk hX9_next_1 11 rfl) rfl ?_
      refine s_getI (zdk hX9_next_1 12 rfl) fw_X9_101 rfl (hm.1) ?_
      refine s_topi (b := nI i) (show zI (rdM M (j, i, k0, x, w, p)) 941 10 = _ from rd_be) ?_
      refine s_callV0 (ci := 9) [.int (nI i)] (zdk hX9_next_1 13 rfl) cw_X9_98 (hm.1) (by decide) rfl rfl rfl (Nat.le_of_ble_eq_true rfl) (by decide) (c_X9_see hl hm hu hn hn6 (j := i) (by omega)) ?_
      refine s_topi (b := u i) (qu) ?_
      refine s_iadd (zdk hX9_next_1 14 rfl) ?_
      refine s_bipushv (v := nI 48) (zdk hX9_next_1 15 rfl) zc_bipush_48 ?_
      refine s_isub (zdk hX9_next_1 16 rfl) ?_
      refine s_callS0 [.int (nI 1000000), .int ((((nI 10) * (x)) + (u i)) - (nI 48))] (zdk hX9_next_1 17 rfl) cw_X9_121 rfl (Nat.le_of_ble_eq_true rfl) (by decide) (c_min hl (zsL (rdM M (j, i, k0, x, w, p)) 942 g) (nI 1000000) ((((nI 10) * (x)) + (u i)) - (nI 48))) ?_
      refine s_putI (zdk hX9_next_1 18 rfl) fw_X9_107 rfl pw_9_12 (hm.1) ?_
      refine s_mem (M' := (zsL (rdM M (j, i, k0, (zmi (nI 1000000) (nI 10 * x + u i - nI 48)), w, p)) 942 g)) ((show zsL (zsI (rdM M (j, i, k0, x, w, p)) 941 12 (zmi (nI 1000000) (nI 10 * x + u i - nI 48))) 942 g = _ from congrArg (fun q => zsL q 942 g) rd_nu!)) ?_
      refine s_aload_n (zdk hX9_next_1 19 rfl) rfl ?_
      refine s_dupr (zdk hX9_next_1 20 rfl) ?_
      refine s_getI (zdk hX9_next_1 21 rfl) fw_X9_101 rfl (hm.1) ?_
      refine s_topi (b := nI i) (show zI (rdM M (j, i, k0, (zmi (nI 1000000) (nI 10 * x + u i - nI 48)), w, p)) 941 10 = _ from rd_be) ?_
      refine s_iconstv (v := nI 1) (zdk hX9_next_1 22 rfl) zc_iconst_1 ?_
      refine s_iadd (zdk hX9_next_1 23 rfl) ?_
      refine s_topi (b := nI (i + 1)) (nI_add _ _) ?_
      refine s_putI (zdk hX9_next_1 24 rfl) fw_X9_101 rfl pw_9_10 (hm.1) ?_
      refine s_mem (M' := (zsL (rdM M (j, i + 1, k0, (zmi (nI 1000000) (nI 10 * x + u i - nI 48)), w, p)) 942 g)) ((show zsL (zsI (rdM M (j, i, k0, (zmi (nI 1000000) (nI 10 * x + u i - nI 48)), w, p)) 941 10 (nI (i + 1))) 942 g = _ from congrArg (fun q => zsL q 942 g) rd_be!)) ?_
      refine s_goto 120 (zdk hX9_next_1 25 rfl) (by decide) ?_
      exact ih (i + 1) _ kk (by omega) (by omega)
theorem w_X9_next_34 (hl : l.stackTraces = false) {M : zMem} (hm : mSh M) {g : Nat → Int64} {u : Nat → Int32} (hu : zI M 947 = u) {n : Nat} (hn : zI M 941 8 = nI n) (hn6 : n ≤ 600) {b j k0 : Nat} (hj : j ≤ n) (x w p : Int32) : zS l G mX9_next 2 90 0 0 34 [some (.ref 941)] [] (zsL (rdM M (j, b, k0, x, w, p)) 942 g) (zD none (zsL (rdM M (rTk u n j (w, p))) 942 g)) := by
  refine s_aload_n (zdk hX9_next_0 17 rfl) rfl ?_
  refine s_aload_n (zdk hX9_next_0 18 rfl) rfl ?_
  refine s_getI (zdk hX9_next_0 19 rfl) fw_X9_104 rfl (hm.1) ?_
  refine s_topi (b := nI j) (show zI (rdM M (j, b, k0, x, w, p)) 941 9 = _ from rd_at) ?_
  refine s_putI (zdk hX9_next_0 20 rfl) fw_X9_101 rfl pw_9_10 (hm.1) ?_
  refine s_mem (M' := (zsL (rdM M (j, j, k0, x, w, p)) 942 g)) ((show zsL (zsI (rdM M (j, b, k0, x, w, p)) 941 10 (nI j)) 942 g = _ from congrArg (fun q => zsL q 942 g) rd_be!)) ?_
  refine s_aload_n (zdk hX9_next_0 21 rfl) rfl ?_
  refine s_iconstv (v := nI 0) (zdk hX9_next_0 22 rfl) zc_iconst_0 ?_
  refine s_putI (zdk hX9_next_0 23 rfl) fw_X9_107 rfl pw_9_12 (hm.1) ?_
  refine s_mem (M' := (zsL (rdM M (j, j, k0, nI 0, w, p)) 942 g)) ((show zsL (zsI (rdM M (j, j, k0, x, w, p)) 941 12 (nI 0)) 942 g = _ from congrArg (fun q => zsL q 942 g) rd_nu!)) ?_
  refine s_aload_n (zdk hX9_next_0 24 rfl) rfl ?_
  refine s_getI (zdk hX9_next_0 25 rfl) fw_X9_104 rfl (hm.1) ?_
  refine s_topi (b := nI j) (show zI (rdM M (j, j, k0, nI 0, w, p)) 941 9 = _ from rd_at) ?_
  refine s_aload_n (zdk hX9_next_0 26 rfl) rfl ?_
  refine s_getI (zdk hX9_next_0 27 rfl) fw_X9_95 rfl (hm.1) ?_
  refine s_topi (b := nI n) ((show zI (rdM M (j, j, k0, nI 0, w, p)) 941 8 = _ from rd_o (by decide)).trans hn) ?_
  refine s_icmp_lt 66 (zdk hX9_next_0 28 rfl) (by decide) (fun c55 => ?_) (fun c55 => ?_)
  · have n55 : j < n := nlt' c55 (by omega) (by omega)
    have zb : zrb u n j = u j := if_pos n55
    refine s_aload_n (zdk hX9_next_0 33 rfl) rfl ?_
    refine s_aload_n (zdk hX9_next_0 34 rfl) rfl ?_
    refine s_getI (zdk hX9_next_0 35 rfl) fw_X9_104 rfl (hm.1) ?_
    refine s_topi (b := nI j) (show zI (rdM M (j, j, k0, nI 0, w, p)) 941 9 = _ from rd_at) ?_
    refine s_callV0 (ci := 9) [.int (nI j)] (zdk hX9_next_0 36 rfl) cw_X9_113 (hm.1) (by decide) rfl rfl rfl (Nat.le_of_ble_eq_true rfl) (by decide) (c_X9_isLetter hl hm hu hn hn6 (j := j) (by omega)) ?_
    refine s_if_eq 109 (zdk hX9_next_0 37 rfl) (by decide) (fun c74 => ?_) (fun c74 => ?_)
    · have b74 : ¬ (nI 97 ≤ zrb u n j ∧ zrb u n j ≤ nI 122) := b01_eq c74
      refine s_aload_n (zdk hX9_next_0 54 rfl) rfl ?_
      refine s_aload_n (zdk hX9_next_0 55 rfl) rfl ?_
      refine s_getI (zdk hX9_next_0 56 rfl) fw_X9_104 rfl (hm.1) ?_
      refine s_topi (b := nI j) (show zI (rdM M (j, j, k0, nI 0, w, p)) 941 9 = _ from rd_at) ?_
      refine s_callV0 (ci := 9) [.int (nI j)] (zdk hX9_next_0 57 rfl) cw_X9_117 (hm.1) (by decide) rfl rfl rfl (Nat.le_of_ble_eq_true rfl) (by decide) (c_X9_isDigit hl hm hu hn hn6 (j := j) (by omega)) ?_
      refine s_if_eq 180 (zdk hX9_next_0 58 rfl) (by decide) (fun c117 => ?_) (fun c117 => ?_)
      · have b117 : ¬ (nI 48 ≤ zrb u n j ∧ zrb u n j ≤ nI 57) := b01_eq c117
        have eT : (rTk u n j (w, p)) = (j, j + 1, 2, nI 0, w, p) := (if_neg (by omega)).trans ((if_neg (by rw [zb] at b74; exact b74)).trans (if_neg (by rw [zb] at b117; exact b117)))
        refine s_aload_n (zdk hX9_next_1 30 rfl) rfl ?_
        refine s_dupr (zdk hX9_next_1 31 rfl) ?_
        refine s_getI (zdk hX9_next_1 32 rfl) fw_X9_101 rfl (hm.1) ?_
        refine s_topi (b := nI j) (show zI (rdM M (j, j, k0, nI 0, w, p)) 941 10 = _ from rd_be) ?_
        refine s_iconstv (v := nI 1) (zdk hX9_next_1 33 rfl) zc_iconst_1 ?_
        refine s_iadd (zdk hX9_next_1 34 rfl) ?_
        refine s_topi (b := nI (j + 1)) (nI_add _ _) ?_
        refine s_putI (zdk hX9_next_1 35 rfl) fw_X9_101 rfl pw_9_10 (hm.1) ?_
        refine s_mem (M' := (zsL (rdM M (j, j + 1, k0, nI 0, w, p)) 942 g)) ((show zsL (zsI (rdM M (j, j, k0, nI 0, w, p)) 941 10 (nI (j + 1))) 942 g = _ from congrArg (fun q => zsL q 942 g) rd_be!)) ?_
        refine s_aload_n (zdk hX9_next_1 36 rfl) rfl ?_
        refine s_iconstv (v := nI 2) (zdk hX9_next_1 37 rfl) zc_iconst_2 ?_
        refine s_putI (zdk hX9_next_1 38 rfl) fw_X9_110 rfl pw_9_11 (hm.1) ?_
        refine s_mem (M' := (zsL (rdM M (j, j + 1, 2, nI 0, w, p)) 942 g)) ((show zsL (zsI (rdM M (j, j + 1, k0, nI 0, w, p)) 941 11 (nI 2)) 942 g = _ from congrArg (fun q => zsL q 942 g) rd_ki!)) ?_
        refine s_return (zdk hX9_next_1 39 rfl) rfl ?_
        rw [eT]; exact ⟨rfl, rfl⟩
      · have b117 : nI 48 ≤ zrb u n j ∧ zrb u n j ≤ nI 57 := b01_ne c117
        refine w_X9_next_120 hl hm hu hn hn6 (n + 1) j (nI 0) ?_ (by omega) (by omega)
        have eT : (rTk u n j (w, p)) = (j, (zrR u (n - j) j (nI 0)).1, 1, (zrR u (n - j) j (nI 0)).2, w, p) := (if_neg (by omega)).trans ((if_neg (by rw [zb] at b74; exact b74)).trans (if_pos (by rw [zb] at b117; exact b117)))
        rw [eT]
        refine s_aload_n (zdk hX9_next_1 26 rfl) rfl ?_
        refine s_iconstv (v := nI 1) (zdk hX9_next_1 27 rfl) zc_iconst_1 ?_
        refine s_putI (zdk hX9_next_1 28 rfl) fw_X9_110 rfl pw_9_11 (hm.1) ?_
        refine s_mem (M' := (zsL (rdM M (j, (zrR u (n - j) j (nI 0)).1, 1, (zrR u (n - j) j (nI 0)).2, w, p)) 942 g)) ((show zsL (zsI (rdM M (j, (zrR u (n - j) j (nI 0)).1, k0, (zrR u (n - j) j (nI 0)).2, w, p)) 941 11 (nI 1)) 942 g = _ from congrArg (fun q => zsL q 942 g) rd_ki!)) ?_
        refine s_goto 195 (zdk hX9_next_1 29 rfl) (by decide) ?_
        refine s_return (zdk hX9_next_1 39 rfl) rfl ?_
        exact ⟨rfl, rfl⟩
    · have b74 : nI 97 ≤ zrb u n j ∧ zrb u n j ≤ nI 122 := b01_ne c74
      refine w_X9_next_77 hl hm hu hn hn6 (n + 1) j ?_ (by omega) (by omega)
      have eT : (rTk u n j (w, p)) = (j, zew u n (n - j) j, 0, nI 0, w, p) := (if_neg (by omega)).trans (if_pos (by rw [zb] at b74; exact b74))
      rw [eT]
      refine s_aload_n (zdk hX9_next_0 50 rfl) rfl ?_
      refine s_iconstv (v := nI 0) (zdk hX9_next_0 51 rfl) zc_iconst_0 ?_
      refine s_putI (zdk hX9_next_0 52 rfl) fw_X9_110 rfl pw_9_11 (hm.1) ?_
      refine s_mem (M' := (zsL (rdM M (j, zew u n (n - j) j, 0, nI 0, w, p)) 942 g)) ((show zsL (zsI (rdM M (j, zew u n (n - j) j, k0, nI 0, w, p)) 941 11 (nI 0)) 942 g = _ from congrArg (fun q => zsL q 942 g) rd_ki!)) ?_
      refine s_goto 195 (zdk hX9_next_0 53 rfl) (by decide) ?_
      refine s_return (zdk hX9_next_1 39 rfl) rfl ?_
      exact ⟨rfl, rfl⟩
  · have n55 : n ≤ j := nge' c55 (by omega) (by omega)
    have eT : (rTk u n j (w, p)) = (j, j, 3, nI 0, w, p) := if_pos n55
    refine s_aload_n (zdk hX9_next_0 29 rfl) rfl ?_
    refine s_iconstv (v := nI 3) (zdk hX9_next_0 30 rfl) zc_iconst_3 ?_
    refine s_putI (zdk hX9_next_0 31 rfl) fw_X9_110 rfl pw_9_11 (hm.1) ?_
    refine s_mem (M' := (zsL (rdM M (j, j, 3, nI 0, w, p)) 942 g)) ((show zsL (zsI (rdM M (j, j, k0, nI 0, w, p)) 941 11 (nI 3)) 942 g = _ from congrArg (fun q => zsL q 942 g) rd_ki!)) ?_
    refine s_goto 195 (zdk hX9_next_0 32 rfl) (by decide) ?_
    refine s_return (zdk hX9_next_1 39 rfl) rfl ?_
    rw [eT]; exact ⟨rfl, rfl⟩
theorem c_X9_next (hl : l.stackTraces = false) {M : zMem} (hm : mSh M) {g : Nat → Int64} {u : Nat → Int32} (hu : zI M 947 = u) {n : Nat} (hn : zI M 941 8 = nI n) (hn6 : n ≤ 600) {i b k0 : Nat} (hbn : b ≤ n) (x w p : Int32) : zCm l G mX9_next 2 90 0 0 [.ref 941] (zsL (rdM M (i, b, k0, x, w, p)) 942 g) (zD none (zsL (rdM M (rNx u n (i, b, k0, x, w, p))) 942 g)) := by
  refine zCd.of (ls0 := [some (.ref 941)]) (by decide +kernel) rfl hl rfl (Nat.le_of_ble_eq_true rfl) rfl ?_
  refine s_aload_n (zdk hX9_next_0 0 rfl) rfl ?_
  refine s_aload_n (zdk hX9_next_0 1 rfl) rfl ?_
  refine s_getI (zdk hX9_next_0 2 rfl) fw_X9_101 rfl (hm.1) ?_
  refine s_topi (b := nI b) (show zI (rdM M (i, b, k0, x, w, p)) 941 10 = _ from rd_be) ?_
  refine s_putI (zdk hX9_next_0 3 rfl) fw_X9_104 rfl pw_9_9 (hm.1) ?_
  refine s_mem (M' := (zsL (rdM M (b, b, k0, x, w, p)) 942 g)) ((show zsL (zsI (rdM M (i, b, k0, x, w, p)) 941 9 (nI b)) 942 g = _ from congrArg (fun q => zsL q 942 g) rd_at!)) ?_
  have hz := zsk_in (u := u) (n := n) (n - b) b
  refine w_X9_next_8 hl hm hu hn hn6 (n + 1) b ?_ (by omega) (by omega)
  exact w_X9_next_34 hl hm hu hn hn6 (by omega) x w p
end

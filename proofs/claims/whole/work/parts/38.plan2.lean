/-! ===== the plan as such ===== -/
theorem zfT_form (g gn : Nat → Int64) (sp : Nat → Int32) (f : Nat) : ∀ (m : Nat) (b : zBt), zfT g gn sp f m b = b ∨ ∃ t, t < m ∧ zfT g gn sp f m b = (nI f, -1, nI t, gn (f * 4 + t))
  | 0, b => Or.inl rfl
  | m + 1, b => by
    unfold zfT
    split
    · exact Or.inr ⟨m, by omega, rfl⟩
    · rcases zfT_form g gn sp f m b with h | ⟨t, h1, h2⟩
      · exact Or.inl h
      · exact Or.inr ⟨t, by omega, h2⟩
theorem zfF_form (g gn : Nat → Int64) (op sp : Nat → Int32) : ∀ (m : Nat) (b : zBt), zfF g gn op sp m b = b ∨ ∃ f t, f < m ∧ t < gN g 2 ∧ ¬ op f = 0 ∧ zfF g gn op sp m b = (nI f, -1, nI t, gn (f * 4 + t))
  | 0, b => Or.inl rfl
  | m + 1, b => by
    unfold zfF
    split
    · rcases zfF_form g gn op sp m b with h | ⟨f, t, h1, h2, h3, h4⟩
      · exact Or.inl h
      · exact Or.inr ⟨f, t, by omega, h2, h3, h4⟩
    · rename_i ho
      rcases zfT_form g gn sp m (gN g 2) (zfF g gn op sp m b) with h | ⟨t, h1, h2⟩
      · rw [h]
        rcases zfF_form g gn op sp m b with h | ⟨f, t, h1, h2, h3, h4⟩
        · exact Or.inl h
        · exact Or.inr ⟨f, t, by omega, h2, h3, h4⟩
      · exact Or.inr ⟨m, t, by omega, h1, ho, h2⟩
theorem zxJ_form (g gn : Nat → Int64) (op sp : Nat → Int32) (i : Nat) : ∀ (m : Nat) (b : zBt), zxJ g gn op sp i m b = b ∨ ∃ d, d < m ∧ ¬ op (i + 1 + d) = 0 ∧ zxJ g gn op sp i m b = (nI i, nI (i + 1 + d), nI (gN g (58 + 51 * (i + 1 + d) + 1)), zxG g gn i (i + 1 + d))
  | 0, b => Or.inl rfl
  | m + 1, b => by
    unfold zxJ
    split
    · rename_i c
      exact Or.inr ⟨m, by omega, c.1, rfl⟩
    · rcases zxJ_form g gn op sp i m b with h | ⟨t, h1, h2⟩
      · exact Or.inl h
      · exact Or.inr ⟨t, by omega, h2⟩
theorem zxF_form (g gn : Nat → Int64) (op sp : Nat → Int32) : ∀ (m : Nat) (b : zBt), m ≤ gN g 3 → zxF g gn op sp m b = b ∨ ∃ i j, i < j ∧ j < gN g 3 ∧ ¬ op i = 0 ∧ ¬ op j = 0 ∧ zxF g gn op sp m b = (nI i, nI j, nI (gN g (58 + 51 * j + 1)), zxG g gn i j)
  | 0, b, _ => Or.inl rfl
  | m + 1, b, hm => by
    unfold zxF
    split
    · exact zxF_form g gn op sp m b (by omega)
    · rename_i ho
      rcases zxJ_form g gn op sp m (gN g 3 - (m + 1)) (zxF g gn op sp m b) with h | ⟨d, h1, h2, h3⟩
      · rw [h]
        exact zxF_form g gn op sp m b (by omega)
      · exact Or.inr ⟨m, m + 1 + d, by omega, by omega, ho, h2, h3⟩
/-- where it begins matters by its gain alone -/
theorem zfT_ind (g gn : Nat → Int64) (sp : Nat → Int32) (f : Nat) {b c : zBt} (e : b.2.2.2 = c.2.2.2) : ∀ m, (zfT g gn sp f m b = b ∧ zfT g gn sp f m c = c) ∨ zfT g gn sp f m b = zfT g gn sp f m c
  | 0 => Or.inl ⟨rfl, rfl⟩
  | m + 1 => by
    rcases zfT_ind g gn sp f e m with ⟨h1, h2⟩ | h
    · unfold zfT
      rw [h1, h2, e]
      split
      · exact Or.inr rfl
      · exact Or.inl ⟨rfl, rfl⟩
    · unfold zfT
      rw [h]
      exact Or.inr rfl
theorem zfF_ind (g gn : Nat → Int64) (op sp : Nat → Int32) {b c : zBt} (e : b.2.2.2 = c.2.2.2) : ∀ m, (zfF g gn op sp m b = b ∧ zfF g gn op sp m c = c) ∨ zfF g gn op sp m b = zfF g gn op sp m c
  | 0 => Or.inl ⟨rfl, rfl⟩
  | m + 1 => by
    rcases zfF_ind g gn op sp e m with ⟨h1, h2⟩ | h
    · unfold zfF
      rw [h1, h2]
      split
      · exact Or.inl ⟨rfl, rfl⟩
      · exact zfT_ind g gn sp m e (gN g 2)
    · unfold zfF
      rw [h]
      exact Or.inr rfl
theorem zxJ_ind (g gn : Nat → Int64) (op sp : Nat → Int32) (i : Nat) {b c : zBt} (e : b.2.2.2 = c.2.2.2) : ∀ m, (zxJ g gn op sp i m b = b ∧ zxJ g gn op sp i m c = c) ∨ zxJ g gn op sp i m b = zxJ g gn op sp i m c
  | 0 => Or.inl ⟨rfl, rfl⟩
  | m + 1 => by
    rcases zxJ_ind g gn op sp i e m with ⟨h1, h2⟩ | h
    · unfold zxJ
      rw [h1, h2, e]
      split
      · exact Or.inr rfl
      · exact Or.inl ⟨rfl, rfl⟩
    · unfold zxJ
      rw [h]
      exact Or.inr rfl
theorem zxF_ind (g gn : Nat → Int64) (op sp : Nat → Int32) {b c : zBt} (e : b.2.2.2 = c.2.2.2) : ∀ m, (zxF g gn op sp m b = b ∧ zxF g gn op sp m c = c) ∨ zxF g gn op sp m b = zxF g gn op sp m c
  | 0 => Or.inl ⟨rfl, rfl⟩
  | m + 1 => by
    rcases zxF_ind g gn op sp e m with ⟨h1, h2⟩ | h
    · unfold zxF
      rw [h1, h2]
      split
      · exact Or.inl ⟨rfl, rfl⟩
      · exact zxJ_ind g gn op sp m e _
    · unfold zxF
      rw [h]
      exact Or.inr rfl
/-- steps so far, what they save, their rows, who is open, what is free -/
abbrev zPs : Type := Nat × Int64 × (Nat → Int32) × (Nat → Int32) × (Nat → Int32) × (Nat → Int32) × (Nat → Int32)
def zTkS (sp : Nat → Int32) (fr to : Nat) (sz : Int32) : Nat → Int32 := zw1 (zw1 sp fr (sp fr + sz)) to (zw1 sp fr (sp fr + sz) to - sz)
def zTake (g : Nat → Int64) (q : zPs) (f0 : Nat) (o : Option Nat) (t0 : Nat) (x : Int64) : zPs :=
  (q.1 + 1, q.2.1 + x, zw1 q.2.2.1 q.1 (nI f0), zw1 q.2.2.2.1 q.1 (zOi o), zw1 q.2.2.2.2.1 q.1 (nI t0),
    match o with
    | none => (zw1 q.2.2.2.2.2.1 f0 (nI 0), zTkS q.2.2.2.2.2.2 (gN g (58 + 51 * f0 + 1)) t0 (gf g f0 0))
    | some j => (zw1 (zw1 q.2.2.2.2.2.1 f0 (nI 0)) j (nI 0), zTkS (zTkS q.2.2.2.2.2.2 (gN g (58 + 51 * f0 + 1)) t0 (gf g f0 0)) t0 (gN g (58 + 51 * f0 + 1)) (gf g j 0)))
def zBst (g gn : Nat → Int64) (op sp : Nat → Int32) : zBt := if (zfF g gn op sp (gN g 3) (0, 0, 0, lN 0)).2.2.2 ≤ lN 0 then zxF g gn op sp (gN g 3) (0, 0, 0, lN 0) else zfF g gn op sp (gN g 3) (0, 0, 0, lN 0)
def zDo (x : Int32) : Option Nat := if x = -1 then none else some x.toNatClampNeg
def zStp (g gn : Nat → Int64) (q : zPs) : Option zPs := if (zBst g gn q.2.2.2.2.2.1 q.2.2.2.2.2.2).2.2.2 ≤ lN 0 then none else some (zTake g q (zBst g gn q.2.2.2.2.2.1 q.2.2.2.2.2.2).1.toNatClampNeg (zDo (zBst g gn q.2.2.2.2.2.1 q.2.2.2.2.2.2).2.1) (zBst g gn q.2.2.2.2.2.1 q.2.2.2.2.2.2).2.2.1.toNatClampNeg (zBst g gn q.2.2.2.2.2.1 q.2.2.2.2.2.2).2.2.2)
def zPln (g gn : Nat → Int64) : Nat → zPs → zPs
  | 0, q => q
  | k + 1, q => match zStp g gn q with
    | none => q
    | some q' => zPln g gn k q'
def rPl (M : zMem) (a : Nat) (gn : Nat → Int64) (q : zPs) : Prop := nSh M a ∧ zI M a 0 = nI q.1 ∧ zJ M a 1 = q.2.1 ∧ zI M (a + 1) = q.2.2.1 ∧ zI M (a + 2) = q.2.2.2.1 ∧ zI M (a + 3) = q.2.2.2.2.1 ∧ zJ M (a + 4) = gn ∧ zI M (a + 5) = q.2.2.2.2.2.1 ∧ zI M (a + 6) = q.2.2.2.2.2.2
theorem zMB_a {M : zMem} {a k : Nat} {b : zBt} (h : k < 8) : zI (zMB M a b) a k = zI M a k := by
  unfold zMB
  rw [zI_J, zI_Ie, zw1_n (by omega), zI_Ie, zw1_n (by omega), zI_Ie, zw1_n (by omega)]
theorem rPl.mb {M : zMem} {a : Nat} {gn : Nat → Int64} {q : zPs} {b : zBt} (h : rPl M a gn q) : rPl (zMB M a b) a gn q := by
  obtain ⟨h1, h2, h3, h4, h5, h6, h7, h8, h9⟩ := h
  refine ⟨h1, (zMB_a (by decide)).trans h2, ?_, ?_, ?_, ?_, ?_, ?_, ?_⟩
  · unfold zMB
    rw [zJ_Jw, zwL_n (by decide)]
    exact h3
  · rw [zMB_In (by omega)]; exact h4
  · rw [zMB_In (by omega)]; exact h5
  · rw [zMB_In (by omega)]; exact h6
  · rw [zMB_Jn (by omega)]; exact h7
  · rw [zMB_In (by omega)]; exact h8
  · rw [zMB_In (by omega)]; exact h9
theorem zTk_5 {M : zMem} {a f fr to : Nat} {sz : Int32} : zI (zTk M a f fr to sz) (a + 5) = zw1 (zI M (a + 5)) f (nI 0) := by
  unfold zTk
  rw [zI_In (show a + 5 ≠ a + 6 by omega), zI_In (show a + 5 ≠ a + 6 by omega), zI_Ie]
theorem zTk_6 {M : zMem} {a f fr to : Nat} {sz : Int32} : zI (zTk M a f fr to sz) (a + 6) = zTkS (zI M (a + 6)) fr to sz := by
  unfold zTk zTkS
  rw [zI_Ie, zI_Ie, zI_In (show a + 6 ≠ a + 5 by omega)]
theorem rPl.ts {M : zMem} {a n f0 t0 : Nat} {o : Option Nat} {g gn : Nat → Int64} {q : zPs} (h : rPl M a gn q) (hn : q.1 = n) : rPl (zTs M a n g f0 o t0) a gn (zTake g q f0 o t0 (zJ M a 11)) := by
  obtain ⟨h1, h2, h3, h4, h5, h6, h7, h8, h9⟩ := h
  have i0 : zI (zTs0 M a n f0 o t0) a 0 = nI (n + 1) := by unfold zTs0; rw [zI_J, zI_Ie, zw1_e]
  have j1 : zJ (zTs0 M a n f0 o t0) a 1 = zJ M a 1 + zJ M a 11 := by unfold zTs0; rw [zJ_Jw, zwL_e]
  have i1 : zI (zTs0 M a n f0 o t0) (a + 1) = zw1 (zI M (a + 1)) n (nI f0) := by unfold zTs0; rw [zI_J, zI_In (by omega), zI_In (by omega), zI_In (by omega), zI_Ie]
  have i2 : zI (zTs0 M a n f0 o t0) (a + 2) = zw1 (zI M (a + 2)) n (zOi o) := by unfold zTs0; rw [zI_J, zI_In (by omega), zI_In (by omega), zI_Ie, zI_In (by omega)]
  have i3 : zI (zTs0 M a n f0 o t0) (a + 3) = zw1 (zI M (a + 3)) n (nI t0) := by unfold zTs0; rw [zI_J, zI_In (by omega), zI_Ie, zI_In (by omega), zI_In (by omega)]
  have i4 : zJ (zTs0 M a n f0 o t0) (a + 4) = zJ M (a + 4) := by unfold zTs0; rw [zJ_Jn (by omega)]; rfl
  have i5 : zI (zTs0 M a n f0 o t0) (a + 5) = zI M (a + 5) := by unfold zTs0; rw [zI_J, zI_In (by omega), zI_In (by omega), zI_In (by omega), zI_In (by omega)]
  have i6 : zI (zTs0 M a n f0 o t0) (a + 6) = zI M (a + 6) := by unfold zTs0; rw [zI_J, zI_In (by omega), zI_In (by omega), zI_In (by omega), zI_In (by omega)]
  cases o with
  | none =>
    refine ⟨h1, ?_, ?_, ?_, ?_, ?_, ?_, ?_, ?_⟩
    · show zI (zTk _ _ _ _ _ _) a 0 = nI (q.1 + 1)
      rw [zTk_n (by omega) (by omega), i0, hn]
    · show zJ (zTs0 M a n f0 none t0) a 1 = q.2.1 + zJ M a 11
      rw [j1, h3]
    · show zI (zTk _ _ _ _ _ _) (a + 1) = zw1 q.2.2.1 q.1 (nI f0)
      rw [zTk_n (by omega) (by omega), i1, h4, hn]
    · show zI (zTk _ _ _ _ _ _) (a + 2) = zw1 q.2.2.2.1 q.1 _
      rw [zTk_n (by omega) (by omega), i2, h5, hn]
    · show zI (zTk _ _ _ _ _ _) (a + 3) = zw1 q.2.2.2.2.1 q.1 _
      rw [zTk_n (by omega) (by omega), i3, h6, hn]
    · show zJ (zTs0 M a n f0 none t0) (a + 4) = gn
      rw [i4, h7]
    · show zI (zTk _ _ _ _ _ _) (a + 5) = zw1 q.2.2.2.2.2.1 f0 (nI 0)
      rw [zTk_5, i5, h8]
    · show zI (zTk _ _ _ _ _ _) (a + 6) = zTkS q.2.2.2.2.2.2 _ _ _
      rw [zTk_6, i6, h9]
  | some j =>
    refine ⟨h1, ?_, ?_, ?_, ?_, ?_, ?_, ?_, ?_⟩
    · show zI (zTk (zTk _ _ _ _ _ _) _ _ _ _ _) a 0 = nI (q.1 + 1)
      rw [zTk_n (by omega) (by omega), zTk_n (by omega) (by omega), i0, hn]
    · show zJ (zTs0 M a n f0 (some j) t0) a 1 = q.2.1 + zJ M a 11
      rw [j1, h3]
    · show zI (zTk (zTk _ _ _ _ _ _) _ _ _ _ _) (a + 1) = zw1 q.2.2.1 q.1 (nI f0)
      rw [zTk_n (by omega) (by omega), zTk_n (by omega) (by omega), i1, h4, hn]
    · show zI (zTk (zTk _ _ _ _ _ _) _ _ _ _ _) (a + 2) = zw1 q.2.2.2.1 q.1 _
      rw [zTk_n (by omega) (by omega), zTk_n (by omega) (by omega), i2, h5, hn]
    · show zI (zTk (zTk _ _ _ _ _ _) _ _ _ _ _) (a + 3) = zw1 q.2.2.2.2.1 q.1 _
      rw [zTk_n (by omega) (by omega), zTk_n (by omega) (by omega), i3, h6, hn]
    · show zJ (zTs0 M a n f0 (some j) t0) (a + 4) = gn
      rw [i4, h7]
    · show zI (zTk (zTk _ _ _ _ _ _) _ _ _ _ _) (a + 5) = zw1 (zw1 q.2.2.2.2.2.1 f0 (nI 0)) j (nI 0)
      rw [zTk_5, zTk_5, i5, h8]
    · show zI (zTk (zTk _ _ _ _ _ _) _ _ _ _ _) (a + 6) = zTkS (zTkS q.2.2.2.2.2.2 _ _ _) _ _ _
      rw [zTk_6, zTk_6, i6, h9]
theorem zag_ts {M : zMem} {a n f0 t0 : Nat} {o : Option Nat} {g : Nat → Int64} : zag M (zTs M a n g f0 o t0) (fun c => c < a ∨ a + 7 ≤ c) := by
  cases o with
  | none => exact zag_ts0.trans (zag_tk.mono fun c hc => by omega)
  | some j => exact (zag_ts0.trans (zag_tk.mono fun c hc => by omega)).trans (zag_tk.mono fun c hc => by omega)

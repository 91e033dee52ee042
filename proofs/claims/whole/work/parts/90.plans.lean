/-! ===== plans: the reference plans as the class plans ===== -/
/-- what planning leaves alone -/
def pFr (X0 X : zMem) : Prop := zsh X0 X ∧ (∀ b, b ≠ 941 → (b < 948 ∨ 954 < b) → zI X b = zI X0 b ∧ (b ≠ 942 → zJ X b = zJ X0 b)) ∧ (∀ b, zR X b = zR X0 b) ∧ (∀ k, k < 23 ∨ 29 < k → zI X 941 k = zI X0 941 k)
theorem pFr.trans {X0 X X2 : zMem} (h : pFr X0 X) (h2 : pFr X X2) : pFr X0 X2 :=
  ⟨h2.1.trans h.1, fun b q1 q2 => ⟨(h2.2.1 b q1 q2).1.trans (h.2.1 b q1 q2).1, fun q3 => ((h2.2.1 b q1 q2).2 q3).trans ((h.2.1 b q1 q2).2 q3)⟩, fun b => (h2.2.2.1 b).trans (h.2.2.1 b), fun k q => (h2.2.2.2 k q).trans (h.2.2.2 k q)⟩
theorem pFr.sh {X0 X : zMem} (h : pFr X0 X) (hm : mSh X0) : mSh X := hm.keep h.1 (h.2.2.1 941)
def mPl (X : zMem) (g : Nat → Int64) (q : zPs) (pa : Nat → Nat) : Prop := zI X 941 23 = nI q.1 ∧ zJ X 941 27 = q.2.1 ∧ (∀ i, i < q.1 → zI X 949 i = q.2.2.1 i ∧ zI X 950 i = q.2.2.2.1 i ∧ zI X 951 i = q.2.2.2.2.1 i) ∧ (∀ f, f < gN g 3 → zI X 948 f = nI (pa f) ∧ pa f < gN g 2) ∧ pMk g pa (zI X 952) (zI X 953) q.2.2.2.2.2.1 q.2.2.2.2.2.2
theorem pFr_RB {X : zMem} {r : zBt} : pFr X (zRB X r) := by
  refine ⟨rfl, fun b q1 q2 => ⟨zRB_I0 q1, fun _ => ?_⟩, fun b => rfl, fun k q => ?_⟩
  · unfold zRB
    rw [zJ_Jn q1]
    rfl
  · unfold zRB
    rw [zI_J, si_I, if_pos rfl, if_neg (by omega), si_I, if_pos rfl, if_neg (by omega), si_I, if_pos rfl, if_neg (by omega)]
theorem zRB_54 {X : zMem} {r : zBt} : zJ (zRB X r) 954 = zJ X 954 := by
  unfold zRB
  rw [zJ_Jn (by decide)]
  rfl
theorem mPl.rb {X : zMem} {g : Nat → Int64} {q : zPs} {pa : Nat → Nat} {r : zBt} (h : mPl X g q pa) : mPl (zRB X r) g q pa := by
  obtain ⟨h1, h2, h3, h4, h5⟩ := h
  refine ⟨?_, ?_, fun i hi => ?_, fun f hf => ?_, ?_⟩
  · exact (show zI (zRB X r) 941 23 = zI X 941 23 by simp [zRB, si_I, zI_J]).trans h1
  · exact (show zJ (zRB X r) 941 27 = zJ X 941 27 by simp [zRB, sj_J, zJ_I]).trans h2
  · rw [zRB_I0 (by decide), zRB_I0 (by decide), zRB_I0 (by decide)]; exact h3 i hi
  · rw [zRB_I0 (by decide)]; exact h4 f hf
  · rw [zRB_I0 (by decide), zRB_I0 (by decide)]; exact h5
theorem zTkS_c {fr sp : Nat → Int32} {n a t : Nat} {sz : Int32} (h : ∀ k, k < n → fr k = sp k) (ha : a < n) (ht : t < n) : ∀ k, k < n → zTkS fr a t sz k = zTkS sp a t sz k := by
  intro k hk
  unfold zTkS zw1
  simp only [h k hk, h a ha, h t ht]
theorem zGp_53 {X : zMem} {f a t : Nat} {sz : Int32} : zI (zGp X f a t sz) 953 = zTkS (zI X 953) a t sz := by
  unfold zGp zTkS
  rw [zI_In (by decide), zI_In (by decide), zI_Ie, zI_Ie]
theorem zGp_48 {X : zMem} {f a t k : Nat} {sz : Int32} : zI (zGp X f a t sz) 948 k = if k = f then nI t else zI X 948 k := by
  unfold zGp
  rw [zI_In (by decide), si_I, if_pos rfl, zI_In (by decide), zI_In (by decide)]
theorem zGp_52 {X : zMem} {f a t k : Nat} {sz : Int32} : zI (zGp X f a t sz) 952 k = if k = f then nI 1 else zI X 952 k := by
  unfold zGp
  rw [si_I, if_pos rfl, zI_In (by decide), zI_In (by decide), zI_In (by decide)]
theorem zGp_n {X : zMem} {f a t c : Nat} {sz : Int32} (h : c < 948 ∨ 953 < c ∨ (949 ≤ c ∧ c ≤ 951)) : zI (zGp X f a t sz) c = zI X c := by
  unfold zGp
  rw [zI_In (by omega), zI_In (by omega), zI_In (by omega), zI_In (by omega)]
theorem pFr_Gp {X : zMem} {f a t : Nat} {sz : Int32} : pFr X (zGp X f a t sz) := ⟨rfl, fun b q1 q2 => ⟨zGp_n (by omega), fun _ => rfl⟩, fun b => rfl, fun k q => by rw [zGp_n (by omega)]⟩
theorem zGp_J {X : zMem} {f a t : Nat} {sz : Int32} : zJ (zGp X f a t sz) = zJ X := rfl
theorem pX2_c {X : zMem} {b : zBt} {c k : Nat} {s : Int64} (h : k = 948 ∨ k = 952 ∨ k = 953) : zI (pX2 X b c s) k = zI X k := by
  unfold pX2
  rw [zI_J, zI_In (by omega), zI_In (by omega), zI_In (by omega), zI_In (by omega), zRB_I0 (by omega)]
theorem pFr_X2 {X : zMem} {b : zBt} {c : Nat} {s : Int64} : pFr X (pX2 X b c s) := by
  refine ⟨rfl, fun k q1 q2 => ⟨?_, fun _ => ?_⟩, fun b => rfl, fun k q => ?_⟩
  · unfold pX2
    rw [zI_J, zI_In (by omega), zI_In (by omega), zI_In (by omega), zI_In (by omega), zRB_I0 (by omega)]
  · unfold pX2 zRB
    rw [zJ_Jn q1]
    show zJ (zsJ _ 941 28 _) k = _
    rw [zJ_Jn q1]
    rfl
  · unfold pX2
    rw [zI_J, si_I, if_pos rfl, if_neg (by omega), zI_In (by decide), zI_In (by decide), zI_In (by decide)]
    exact pFr_RB.2.2.2 k q
theorem pX2_54 {X : zMem} {b : zBt} {c : Nat} {s : Int64} : zJ (pX2 X b c s) 954 = zJ X 954 := by
  unfold pX2
  rw [zJ_Jn (by decide)]
  exact zRB_54
theorem zw1_if {f : Nat → Int32} {k j : Nat} {v : Int32} : zw1 f k v j = if j = k then v else f j := rfl
/-- what is put at the end of the three rows -/
theorem pX2_rows {X : zMem} {b : zBt} {q : zPs} (h3 : ∀ i, i < q.1 → zI X 949 i = q.2.2.1 i ∧ zI X 950 i = q.2.2.2.1 i ∧ zI X 951 i = q.2.2.2.2.1 i) : ∀ i, i < q.1 + 1 → zI (pX2 X b q.1 q.2.1) 949 i = zw1 q.2.2.1 q.1 b.1 i ∧ zI (pX2 X b q.1 q.2.1) 950 i = zw1 q.2.2.2.1 q.1 b.2.1 i ∧ zI (pX2 X b q.1 q.2.1) 951 i = zw1 q.2.2.2.2.1 q.1 b.2.2.1 i := by
  intro i hi
  have e : ∀ (c : Nat), c = 949 ∨ c = 950 ∨ c = 951 → zI (zRB X b) c = zI X c := fun c q => zRB_I0 (by omega)
  unfold pX2
  refine ⟨?_, ?_, ?_⟩
  · rw [zI_J, zI_In (by decide), zI_In (by decide), zI_In (by decide), si_I, if_pos rfl, e _ (by simp), zw1_if]
    split
    · rfl
    · exact (h3 i (by omega)).1
  · rw [zI_J, zI_In (by decide), zI_In (by decide), si_I, if_pos rfl, zI_In (by decide), e _ (by simp), zw1_if]
    split
    · rfl
    · exact (h3 i (by omega)).2.1
  · rw [zI_J, zI_In (by decide), si_I, if_pos rfl, zI_In (by decide), zI_In (by decide), e _ (by simp), zw1_if]
    split
    · rfl
    · exact (h3 i (by omega)).2.2
theorem mPl.move {X : zMem} {g : Nat → Int64} {q : zPs} {pa : Nat → Nat} {f t : Nat} {v : Int64} (hb : gBd g) (h : mPl X g q pa) (hf : f < gN g 3) (ht : t < gN g 2) (ho : ¬ q.2.2.2.2.2.1 f = 0) :
    mPl (zGp (pX2 X (nI f, (-1), nI t, v) q.1 q.2.1) f (gN g (58 + 51 * f + 1)) t (gf g f 0)) g (zTake g q f none t v) (fun i => if i = f then t else pa i) := by
  obtain ⟨h1, h2, h3, h4, h5, h6, h7⟩ := h
  have hh := (hb.2.2.2.2.2.1 f hf).1.2
  refine ⟨?_, ?_, fun i hi => ?_, fun i hi => ?_, fun i hi => ?_, fun i hi ho2 => ?_, fun i hi => ?_⟩
  · rw [zGp_n (by decide)]; simp [pX2, si_I, zI_J, zTake]
  · rw [zGp_J]
    simp [pX2, sj_J, zTake]
  · rw [zGp_n (by decide), zGp_n (by decide), zGp_n (by decide)]
    exact pX2_rows h3 i hi
  · rw [zGp_48, pX2_c (by simp)]
    by_cases q1 : i = f
    · rw [if_pos q1]
      show _ = nI (if i = f then t else pa i) ∧ (if i = f then t else pa i) < _
      rw [if_pos q1]
      exact ⟨rfl, ht⟩
    · rw [if_neg q1]
      show _ = nI (if i = f then t else pa i) ∧ (if i = f then t else pa i) < _
      rw [if_neg q1]
      exact h4 i hi
  · rw [zGp_52, pX2_c (by simp)]
    show _ ↔ ¬ zw1 q.2.2.2.2.2.1 f (nI 0) i = 0
    rw [zw1_if]
    by_cases q1 : i = f
    · rw [if_pos q1, if_pos q1]
      exact ⟨fun z => absurd z.2 (by decide), fun z => absurd rfl z⟩
    · rw [if_neg q1, if_neg q1]
      exact h5 i hi
  · have ho3 : ¬ zw1 q.2.2.2.2.2.1 f (nI 0) i = 0 := ho2
    rw [zw1_if] at ho3
    by_cases q1 : i = f
    · rw [if_pos q1] at ho3
      exact absurd rfl ho3
    · rw [if_neg q1] at ho3
      exact (if_neg q1).trans (h6 i hi ho3)
  · rw [zGp_53, pX2_c (by simp)]
    exact zTkS_c h7 hh ht i hi
theorem mPl.exch {X : zMem} {g : Nat → Int64} {q : zPs} {pa : Nat → Nat} {f j : Nat} {v : Int64} (hb : gBd g) (h : mPl X g q pa) (hf : f < gN g 3) (hj : j < gN g 3) (hfj : f ≠ j) (ho : ¬ q.2.2.2.2.2.1 f = 0) :
    mPl (zGp (zGp (pX2 X (nI f, nI j, nI (gN g (58 + 51 * j + 1)), v) q.1 q.2.1) f (gN g (58 + 51 * f + 1)) (gN g (58 + 51 * j + 1)) (gf g f 0)) j (gN g (58 + 51 * j + 1)) (gN g (58 + 51 * f + 1)) (gf g j 0)) g (zTake g q f (some j) (gN g (58 + 51 * j + 1)) v) (fun i => if i = j then gN g (58 + 51 * f + 1) else if i = f then gN g (58 + 51 * j + 1) else pa i) := by
  obtain ⟨h1, h2, h3, h4, h5, h6, h7⟩ := h
  have hh := (hb.2.2.2.2.2.1 f hf).1.2
  have hh2 := (hb.2.2.2.2.2.1 j hj).1.2
  refine ⟨?_, ?_, fun i hi => ?_, fun i hi => ?_, fun i hi => ?_, fun i hi ho2 => ?_, fun i hi => ?_⟩
  · rw [zGp_n (by decide), zGp_n (by decide)]; simp [pX2, si_I, zI_J, zTake]
  · rw [zGp_J, zGp_J]
    simp [pX2, sj_J, zTake]
  · rw [zGp_n (by decide), zGp_n (by decide), zGp_n (by decide), zGp_n (by decide), zGp_n (by decide), zGp_n (by decide)]
    exact pX2_rows h3 i hi
  · rw [zGp_48, zGp_48, pX2_c (by simp)]
    show _ = nI (if i = j then gN g (58 + 51 * f + 1) else if i = f then gN g (58 + 51 * j + 1) else pa i) ∧ (if i = j then gN g (58 + 51 * f + 1) else if i = f then gN g (58 + 51 * j + 1) else pa i) < _
    by_cases q0 : i = j
    · rw [if_pos q0, if_pos q0]
      exact ⟨rfl, hh⟩
    · rw [if_neg q0, if_neg q0]
      by_cases q1 : i = f
      · rw [if_pos q1, if_pos q1]
        exact ⟨rfl, hh2⟩
      · rw [if_neg q1, if_neg q1]
        exact h4 i hi
  · rw [zGp_52, zGp_52, pX2_c (by simp)]
    show _ ↔ ¬ zw1 (zw1 q.2.2.2.2.2.1 f (nI 0)) j (nI 0) i = 0
    rw [zw1_if, zw1_if]
    by_cases q0 : i = j
    · rw [if_pos q0, if_pos q0]
      exact ⟨fun z => absurd z.2 (by decide), fun z => absurd rfl z⟩
    · rw [if_neg q0, if_neg q0]
      by_cases q1 : i = f
      · rw [if_pos q1, if_pos q1]
        exact ⟨fun z => absurd z.2 (by decide), fun z => absurd rfl z⟩
      · rw [if_neg q1, if_neg q1]
        exact h5 i hi
  · have ho3 : ¬ zw1 (zw1 q.2.2.2.2.2.1 f (nI 0)) j (nI 0) i = 0 := ho2
    rw [zw1_if, zw1_if] at ho3
    by_cases q0 : i = j
    · rw [if_pos q0] at ho3
      exact absurd rfl ho3
    · rw [if_neg q0] at ho3
      by_cases q1 : i = f
      · rw [if_pos q1] at ho3
        exact absurd rfl ho3
      · rw [if_neg q1] at ho3
        exact (if_neg q0).trans ((if_neg q1).trans (h6 i hi ho3))
  · rw [zGp_53, zGp_53, pX2_c (by simp)]
    exact zTkS_c (zTkS_c h7 hh hh2) hh2 hh i hi
theorem zStp_no0 {g gn : Nat → Int64} {q : zPs} (h : (zBst g gn q.2.2.2.2.2.1 q.2.2.2.2.2.2).2.2.2 ≤ lN 0) : zStp g gn q = none := if_pos h
theorem zPln_no {g gn : Nat → Int64} {q : zPs} (h : zStp g gn q = none) : ∀ k, zPln g gn k q = q
  | 0 => rfl
  | k + 1 => by unfold zPln; rw [h]
theorem zPln_s {g gn : Nat → Int64} {q q' : zPs} (h : zStp g gn q = some q') (k : Nat) : zPln g gn (k + 1) q = zPln g gn k q' := by
  show (match zStp g gn q with | none => q | some q' => zPln g gn k q') = _
  rw [h]
/-- what the best step is -/
theorem zBst_form {g gn : Nat → Int64} {q : zPs} (hb : gBd g) (h : ¬ (zBst g gn q.2.2.2.2.2.1 q.2.2.2.2.2.2).2.2.2 ≤ lN 0) :
    (∃ f t x, f < gN g 3 ∧ t < gN g 2 ∧ ¬ q.2.2.2.2.2.1 f = 0 ∧ zBst g gn q.2.2.2.2.2.1 q.2.2.2.2.2.2 = (nI f, (-1), nI t, x) ∧ zStp g gn q = some (zTake g q f none t x))
    ∨ ∃ f j x, f < j ∧ j < gN g 3 ∧ ¬ q.2.2.2.2.2.1 f = 0 ∧ ¬ q.2.2.2.2.2.1 j = 0 ∧ zBst g gn q.2.2.2.2.2.1 q.2.2.2.2.2.2 = (nI f, nI j, nI (gN g (58 + 51 * j + 1)), x) ∧ zStp g gn q = some (zTake g q f (some j) (gN g (58 + 51 * j + 1)) x) := by
  have h20 := hb.2.2.1.2
  have h4 := hb.2.1.2
  have mv : ∀ (f t : Nat) (x : Int64), f < gN g 3 → t < gN g 2 → zBst g gn q.2.2.2.2.2.1 q.2.2.2.2.2.2 = (nI f, (-1), nI t, x) → zStp g gn q = some (zTake g q f none t x) := by
    intro f t x hf ht e
    unfold zStp
    rw [if_neg h, e]
    show some (zTake g q (nI f).toNatClampNeg (zDo (-1)) (nI t).toNatClampNeg x) = _
    rw [nI_clamp (by omega), nI_clamp (by omega)]
    rfl
  have ex : ∀ (f j t : Nat) (x : Int64), f < gN g 3 → j < gN g 3 → t < gN g 2 → zBst g gn q.2.2.2.2.2.1 q.2.2.2.2.2.2 = (nI f, nI j, nI t, x) → zStp g gn q = some (zTake g q f (some j) t x) := by
    intro f j t x hf hj ht e
    unfold zStp
    rw [if_neg h, e]
    show some (zTake g q (nI f).toNatClampNeg (zDo (nI j)) (nI t).toNatClampNeg x) = _
    rw [nI_clamp (by omega), nI_clamp (by omega), show zDo (nI j) = some j from (if_neg (nI_ne1 (by omega))).trans (congrArg some (nI_clamp (by omega)))]
  by_cases c : (zfF g gn q.2.2.2.2.2.1 q.2.2.2.2.2.2 (gN g 3) (0, 0, 0, lN 0)).2.2.2 ≤ lN 0
  · have e : zBst g gn q.2.2.2.2.2.1 q.2.2.2.2.2.2 = zxF g gn q.2.2.2.2.2.1 q.2.2.2.2.2.2 (gN g 3) (0, 0, 0, lN 0) := if_pos c
    rcases zxF_form g gn q.2.2.2.2.2.1 q.2.2.2.2.2.2 (gN g 3) (0, 0, 0, lN 0) (Nat.le_refl _) with y | ⟨i, j, y1, y2, y3, y4, y5⟩
    · rw [e, y] at h
      exact absurd le00 h
    · exact Or.inr ⟨i, j, _, y1, y2, y3, y4, e.trans y5, ex i j _ _ (by omega) y2 (hb.2.2.2.2.2.1 j y2).1.2 (e.trans y5)⟩
  · have e : zBst g gn q.2.2.2.2.2.1 q.2.2.2.2.2.2 = zfF g gn q.2.2.2.2.2.1 q.2.2.2.2.2.2 (gN g 3) (0, 0, 0, lN 0) := if_neg c
    rcases zfF_form g gn q.2.2.2.2.2.1 q.2.2.2.2.2.2 (gN g 3) (0, 0, 0, lN 0) with y | ⟨f, t, y1, y2, y3, y4⟩
    · rw [y] at c
      exact absurd le00 c
    · exact Or.inl ⟨f, t, _, y1, y2, y3, e.trans y4, mv f t _ y1 y2 (e.trans y4)⟩
/-- behind plans -/
def pQ (M0 : zMem) (g ot : Nat → Int64) (q : zPs) : zOut → zMem → Prop := fun o M' => o = .inl none ∧ ∃ X pa, M' = zsL X 942 g ∧ pFr M0 X ∧ zJ X 954 = ot ∧ mPl X g q pa
section
variable {l : Launch} {G : zG}
theorem w_X9_plans_98 (hl : l.stackTraces = false) {M0 : zMem} (hm : mSh M0) {g ot gn : Nat → Int64} (hb : gBd g) (hi4 : g 4 = (its g 4).toInt64) (hg : pGn g ot gn) (n tt x : Int32) : ∀ (k m : Nat) (X : zMem) (q : zPs) (pa : Nat → Nat) (x4 : Option Value), pFr M0 X → zJ X 954 = ot → mPl X g q pa → oCt q.2.2.2.2.2.1 (gN g 3) ≤ m → q.1 + oCt q.2.2.2.2.2.1 (gN g 3) ≤ 20 → m < k → zS l G mX9_plans 6 170 0 0 98 [some (.ref 941), some (.int n), some (.int tt), some (.int x), x4] [] (zsL X 942 g) (pQ M0 g ot (zPln g gn m q)) := by
  intro k
  induction k with
  | zero => intros; omega
  | succ k ih =>
    intro m X q pa x4 hF h54 hP hc hc2 hk
    have h20 := hb.2.2.1.2
    have h4 := hb.2.1.2
    have hmX := hF.sh hm
    obtain ⟨b, hbX⟩ : ∃ b, zRB X b = X := ⟨_, zRB_id X⟩
    have hS := c_X9_findsStep (G := G) hl hmX hb hi4 (pa := pa) hP.2.2.2.1 b
    have hz := rStp_zBst (op := q.2.2.2.2.2.1) (sp := q.2.2.2.2.2.2) hb (show pGn g (zJ X 954) gn by rw [h54]; exact hg) hP.2.2.2.2 b
    obtain ⟨r, hr⟩ : ∃ r, rStp g (zJ X 954) pa (zI X 952) (zI X 953) b = r := ⟨_, rfl⟩
    rw [hr] at hS hz
    refine s_aload_n (zdk hX9_plans_0 52 rfl) rfl ?_
    refine s_mem (M' := zsL (zRB X b) 942 g) (by rw [hbX]) ?_
    refine s_callV0 (ci := 9) [] (zdk hX9_plans_0 53 rfl) cw_X9_306 hmX.1 (by decide) rfl rfl rfl (Nat.le_of_ble_eq_true rfl) (by decide) hS ?_
    refine s_if_eq 211 (zdk hX9_plans_0 54 rfl) (by decide) (fun c => ?_) (fun c => ?_)
    · have c2 := b01_eq c
      have e : zStp g gn q = none := by
        rcases hz with ⟨z1, z2⟩ | ⟨z1, z2⟩
        · exact zStp_no0 z2
        · exact absurd (by rw [z1]; exact z2) c2
      refine s_return (zdk hX9_plans_1 51 rfl) rfl ⟨rfl, zRB X r, pa, rfl, hF.trans pFr_RB, zRB_54.trans h54, ?_⟩
      rw [zPln_no e]
      exact hP.rb
    · have c2 := b01_ne c
      rcases hz with ⟨z1, z2⟩ | ⟨z1, z2⟩
      · exact absurd z1 c2
      · rcases zBst_form hb z2 with ⟨f, t, v, y1, y2, y3, y4, y5⟩ | ⟨f, j, v, y1, y2, y3, y6, y4, y5⟩
        · have hy := oCt_y y3 (gN g 3) y1
          have hp := hP.2.2.2.2.2.1 f y1 y3
          have hh := (hb.2.2.2.2.2.1 f y1).1.2
          match m, hc with
          | 0, hc => omega
          | m + 1, hc =>
            rw [zPln_s y5]
            refine s_mem (M' := zsL (zRB X (nI f, (-1), nI t, v)) 942 g) (by rw [z1, y4]) ?_
            refine w_X9_plans_105 hl hmX (f := f) (a := gN g (58 + 51 * f + 1)) (t := t) (c := q.1) (by omega) (by omega) (by omega) (by omega) hP.1 hP.2.1 (by rw [(hP.2.2.2.1 f y1).1, hp]) n tt x x4 (fun x4 => ?_)
            refine ih m _ _ _ x4 (hF.trans (pFr_X2.trans pFr_Gp)) ((congrFun zGp_J _).trans (pX2_54.trans h54)) (hP.move hb y1 y2 y3) ?_ ?_ (by omega)
            · show oCt (zw1 q.2.2.2.2.2.1 f (nI 0)) (gN g 3) ≤ m
              omega
            · show q.1 + 1 + oCt (zw1 q.2.2.2.2.2.1 f (nI 0)) (gN g 3) ≤ 20
              omega
        · have hy := oCt_y y3 (gN g 3) (show f < gN g 3 by omega)
          have hy2 := oCt_mo (op := zw1 q.2.2.2.2.2.1 f (nI 0)) (f := j) (gN g 3)
          have hp := hP.2.2.2.2.2.1 f (by omega) y3
          have hp2 := hP.2.2.2.2.2.1 j y2 y6
          have hh := (hb.2.2.2.2.2.1 f (by omega)).1.2
          have hh2 := (hb.2.2.2.2.2.1 j y2).1.2
          match m, hc with
          | 0, hc => omega
          | m + 1, hc =>
            rw [zPln_s y5]
            refine s_mem (M' := zsL (zRB X (nI f, nI j, nI (gN g (58 + 51 * j + 1)), v)) 942 g) (by rw [z1, y4]) ?_
            refine w_X9_plans_105x hl hmX (f := f) (a := gN g (58 + 51 * f + 1)) (t := gN g (58 + 51 * j + 1)) (c := q.1) (by omega) (by omega) (by omega) (by omega) hP.1 hP.2.1 (by rw [(hP.2.2.2.1 f (by omega)).1, hp]) (j := j) (a2 := gN g (58 + 51 * j + 1)) (by omega) (by omega) (by rw [(hP.2.2.2.1 j y2).1, hp2]) (by omega) n tt x x4 (fun x4 => ?_)
            refine ih m _ _ _ x4 (hF.trans (pFr_X2.trans (pFr_Gp.trans pFr_Gp))) ((congrFun zGp_J _).trans ((congrFun zGp_J _).trans (pX2_54.trans h54))) (hP.exch hb (by omega) y2 (by omega) y3) ?_ ?_ (by omega)
            · show oCt (zw1 (zw1 q.2.2.2.2.2.1 f (nI 0)) j (nI 0)) (gN g 3) ≤ m
              omega
            · show q.1 + 1 + oCt (zw1 (zw1 q.2.2.2.2.2.1 f (nI 0)) j (nI 0)) (gN g 3) ≤ 20
              omega
end

/-! ===== plans: what the reference finds is what the class finds ===== -/
/-- the two sides' gains -/
def pGn (g ot gn : Nat → Int64) : Prop := ∀ f, f < gN g 3 → ∀ t, t < gN g 2 → gn (f * 4 + t) = if t = gN g (58 + 51 * f + 1) then lN 0 else rSv g ot f (gN g (58 + 51 * f + 1)) t
/-- the two sides' marks, homes on paper, free places -/
def pMk (g : Nat → Int64) (pa : Nat → Nat) (inn fr op sp : Nat → Int32) : Prop := (∀ f, f < gN g 3 → ((¬ nI (gN g 4) < gf g f 3 ∧ inn f = 0) ↔ ¬ op f = 0)) ∧ (∀ f, f < gN g 3 → ¬ op f = 0 → pa f = gN g (58 + 51 * f + 1)) ∧ ∀ t, t < gN g 2 → fr t = sp t
theorem rmT_no {g ot : Nat → Int64} {pa : Nat → Nat} {inn fr : Nat → Int32} {f : Nat} (h : ¬ (¬ nI (gN g 4) < gf g f 3 ∧ inn f = 0)) : ∀ (m : Nat) (b : zBt), rmT g ot pa inn fr f m b = b
  | 0, _ => rfl
  | m + 1, b => by
    unfold rmT
    rw [if_neg (fun q => h q.1)]
    exact rmT_no h m b
theorem rxJ_no {g ot : Nat → Int64} {pa : Nat → Nat} {inn fr : Nat → Int32} {f : Nat} (h : ¬ (¬ nI (gN g 4) < gf g f 3 ∧ inn f = 0)) : ∀ (m : Nat) (b : zBt), rxJ g ot pa inn fr f m b = b
  | 0, _ => rfl
  | m + 1, b => by
    unfold rxJ
    rw [if_neg (fun q => h q.1)]
    exact rxJ_no h m b
theorem rmT_zfT {g ot gn : Nat → Int64} {pa : Nat → Nat} {inn fr op sp : Nat → Int32} {f : Nat} (hf : f < gN g 3) (hg : pGn g ot gn) (hk : pMk g pa inn fr op sp) (ho : ¬ op f = 0) : ∀ (m : Nat) (b : zBt), m ≤ gN g 2 → lN 0 ≤ b.2.2.2 → rmT g ot pa inn fr f m b = zfT g gn sp f m b ∧ lN 0 ≤ (zfT g gn sp f m b).2.2.2
  | 0, b, _, h0 => ⟨rfl, h0⟩
  | m + 1, b, hm, h0 => by
    obtain ⟨e, h1⟩ := rmT_zfT hf hg hk ho m b (by omega) h0
    have ha := (hk.1 f hf).mpr ho
    have hp := hk.2.1 f hf ho
    have hr := hk.2.2 m (by omega)
    have hgn := hg f hf m (by omega)
    unfold rmT zfT
    rw [e, hp, hr, hgn]
    by_cases q : m = gN g (58 + 51 * f + 1)
    · rw [if_neg (fun z => z.2.1 q), if_pos q, if_neg (fun z => z.1 h1)]
      exact ⟨rfl, h1⟩
    · rw [if_neg q]
      by_cases q2 : gf g f 0 ≤ sp m
      · rw [if_pos ⟨ha, q, Int32.not_lt.mpr q2⟩]
        unfold rFd
        by_cases q3 : rSv g ot f (gN g (58 + 51 * f + 1)) m ≤ (zfT g gn sp f m b).2.2.2
        · rw [if_pos q3, if_neg (fun z => z.1 q3)]
          exact ⟨rfl, h1⟩
        · rw [if_neg q3, if_pos ⟨q3, q2⟩]
          exact ⟨rfl, Int64.le_trans h1 (Int64.le_of_lt (Int64.not_le.mp q3))⟩
      · rw [if_neg (fun z => q2 (Int32.not_lt.mp z.2.2)), if_neg (fun z => q2 z.2)]
        exact ⟨rfl, h1⟩
theorem rmF_zfF {g ot gn : Nat → Int64} {pa : Nat → Nat} {inn fr op sp : Nat → Int32} (hg : pGn g ot gn) (hk : pMk g pa inn fr op sp) : ∀ (m : Nat) (b : zBt), m ≤ gN g 3 → lN 0 ≤ b.2.2.2 → rmF g ot pa inn fr m b = zfF g gn op sp m b ∧ lN 0 ≤ (zfF g gn op sp m b).2.2.2
  | 0, b, _, h0 => ⟨rfl, h0⟩
  | m + 1, b, hm, h0 => by
    obtain ⟨e, h1⟩ := rmF_zfF hg hk m b (by omega) h0
    unfold rmF zfF
    rw [e]
    by_cases q : op m = 0
    · rw [if_pos q, rmT_no (fun z => ((hk.1 m (by omega)).mp z) q)]
      exact ⟨rfl, h1⟩
    · rw [if_neg q]
      exact rmT_zfT (by omega) hg hk q (gN g 2) _ (Nat.le_refl _) h1
theorem rxJ_zxJ {g ot gn : Nat → Int64} {pa : Nat → Nat} {inn fr op sp : Nat → Int32} {i : Nat} (hb : gBd g) (hg : pGn g ot gn) (hk : pMk g pa inn fr op sp) (ho : ¬ op i = 0) : ∀ (m : Nat) (b : zBt), i + 1 + m ≤ gN g 3 → rxJ g ot pa inn fr i m b = zxJ g gn op sp i m b
  | 0, b, _ => rfl
  | m + 1, b, hm => by
    have e := rxJ_zxJ hb hg hk ho m b (by omega)
    have ha := (hk.1 i (by omega)).mpr ho
    have hp := hk.2.1 i (by omega) ho
    have hi := (hb.2.2.2.2.2.1 i (by omega)).1.2
    have hj := (hb.2.2.2.2.2.1 (i + 1 + m) (by omega)).1.2
    unfold rxJ zxJ
    rw [e]
    by_cases q : op (i + 1 + m) = 0
    · rw [if_neg (fun z => ((hk.1 (i + 1 + m) (by omega)).mp z.2.1) q), if_neg (fun z => z.1 q)]
    · have hp2 := hk.2.1 (i + 1 + m) (by omega) q
      have ha2 := (hk.1 (i + 1 + m) (by omega)).mpr q
      rw [hp, hp2, hk.2.2 _ hi, hk.2.2 _ hj]
      by_cases q2 : gN g (58 + 51 * i + 1) = gN g (58 + 51 * (i + 1 + m) + 1)
      · rw [if_neg (fun z => z.2.2.1 q2), if_neg (fun z => z.2.1 q2)]
      · have eG : zxG g gn i (i + 1 + m) = rSv g ot i (gN g (58 + 51 * i + 1)) (gN g (58 + 51 * (i + 1 + m) + 1)) + rSv g ot (i + 1 + m) (gN g (58 + 51 * (i + 1 + m) + 1)) (gN g (58 + 51 * i + 1)) := by
          unfold zxG
          rw [hg i (by omega) _ hj, if_neg (fun z => q2 z.symm), hg (i + 1 + m) (by omega) _ hi, if_neg q2]
        rw [eG]
        unfold rFd
        by_cases q3 : gf g (i + 1 + m) 0 - gf g i 0 ≤ sp (gN g (58 + 51 * i + 1)) ∧ -(gf g (i + 1 + m) 0 - gf g i 0) ≤ sp (gN g (58 + 51 * (i + 1 + m) + 1))
        · rw [if_pos ⟨ha, ha2, q2, Int32.not_lt.mpr q3.1, Int32.not_lt.mpr q3.2⟩]
          by_cases q4 : rSv g ot i (gN g (58 + 51 * i + 1)) (gN g (58 + 51 * (i + 1 + m) + 1)) + rSv g ot (i + 1 + m) (gN g (58 + 51 * (i + 1 + m) + 1)) (gN g (58 + 51 * i + 1)) ≤ (zxJ g gn op sp i m b).2.2.2
          · rw [if_pos q4, if_neg (fun z => z.2.2.1 q4)]
          · rw [if_neg q4, if_pos ⟨q, q2, q4, q3⟩]
        · rw [if_neg (fun z => q3 ⟨Int32.not_lt.mp z.2.2.2.1, Int32.not_lt.mp z.2.2.2.2⟩), if_neg (fun z => q3 z.2.2.2)]
theorem rxF_zxF {g ot gn : Nat → Int64} {pa : Nat → Nat} {inn fr op sp : Nat → Int32} (hb : gBd g) (hg : pGn g ot gn) (hk : pMk g pa inn fr op sp) : ∀ (m : Nat) (b : zBt), m ≤ gN g 3 → rxF g ot pa inn fr m b = zxF g gn op sp m b
  | 0, b, _ => rfl
  | m + 1, b, hm => by
    have e := rxF_zxF hb hg hk m b (by omega)
    unfold rxF zxF
    rw [e]
    by_cases q : op m = 0
    · rw [if_pos q, rxJ_no (fun z => ((hk.1 m (by omega)).mp z) q)]
    · rw [if_neg q]
      exact rxJ_zxJ hb hg hk q _ _ (by omega)
/-- the reference's step is the class's step -/
theorem rStp_zBst {g ot gn : Nat → Int64} {pa : Nat → Nat} {inn fr op sp : Nat → Int32} (hb : gBd g) (hg : pGn g ot gn) (hk : pMk g pa inn fr op sp) (b : zBt) : ((rStp g ot pa inn fr b).2.2.2 ≤ lN 0 ∧ (zBst g gn op sp).2.2.2 ≤ lN 0) ∨ (rStp g ot pa inn fr b = zBst g gn op sp ∧ ¬ (zBst g gn op sp).2.2.2 ≤ lN 0) := by
  obtain ⟨e1, h1⟩ := rmF_zfF hg hk (gN g 3) (b.1, b.2.1, b.2.2.1, lN 0) (Nat.le_refl _) le00
  obtain ⟨-, h2⟩ := rmF_zfF hg hk (gN g 3) (0, 0, 0, lN 0) (Nat.le_refl _) le00
  unfold rStp zBst
  rw [e1]
  rcases zfF_ind g gn op sp (b := (b.1, b.2.1, b.2.2.1, lN 0)) (c := (0, 0, 0, lN 0)) rfl (gN g 3) with ⟨z1, z2⟩ | z
  · rw [z1, z2, if_pos (show (b.1, b.2.1, b.2.2.1, lN 0).2.2.2 = lN 0 from rfl), if_pos (show ((0, 0, 0, lN 0) : zBt).2.2.2 ≤ lN 0 from le00), rxF_zxF hb hg hk _ _ (Nat.le_refl _)]
    rcases zxF_ind g gn op sp (b := (b.1, b.2.1, b.2.2.1, lN 0)) (c := (0, 0, 0, lN 0)) rfl (gN g 3) with ⟨y1, y2⟩ | y
    · rw [y1, y2]
      exact Or.inl ⟨le00, le00⟩
    · rw [y]
      by_cases q : (zxF g gn op sp (gN g 3) (0, 0, 0, lN 0)).2.2.2 ≤ lN 0
      · exact Or.inl ⟨q, q⟩
      · exact Or.inr ⟨rfl, q⟩
  · rw [z]
    by_cases q : (zfF g gn op sp (gN g 3) (0, 0, 0, lN 0)).2.2.2 = lN 0
    · rw [if_pos q, if_pos (by rw [q]; exact le00), rxF_zxF hb hg hk _ _ (Nat.le_refl _)]
      rcases zxF_ind g gn op sp (b := zfF g gn op sp (gN g 3) (0, 0, 0, lN 0)) (c := (0, 0, 0, lN 0)) q (gN g 3) with ⟨y1, y2⟩ | y
      · rw [y1, y2]
        exact Or.inl ⟨by rw [q]; exact le00, le00⟩
      · rw [y]
        by_cases q : (zxF g gn op sp (gN g 3) (0, 0, 0, lN 0)).2.2.2 ≤ lN 0
        · exact Or.inl ⟨q, q⟩
        · exact Or.inr ⟨rfl, q⟩
    · have q2 : ¬ (zfF g gn op sp (gN g 3) (0, 0, 0, lN 0)).2.2.2 ≤ lN 0 := fun z => q (Int64.le_antisymm z h2)
      rw [if_neg q, if_neg q2]
      exact Or.inr ⟨rfl, q2⟩
/-- how many files may still move -/
def oCt (op : Nat → Int32) : Nat → Nat
  | 0 => 0
  | m + 1 => if op m = 0 then oCt op m else oCt op m + 1
theorem oCt_le (op : Nat → Int32) : ∀ m, oCt op m ≤ m
  | 0 => Nat.le_refl 0
  | m + 1 => by
    have := oCt_le op m
    unfold oCt
    split <;> omega
theorem oCt_n {op : Nat → Int32} {f : Nat} : ∀ m, m ≤ f → oCt (zw1 op f (nI 0)) m = oCt op m
  | 0, _ => rfl
  | m + 1, h => by
    unfold oCt
    rw [oCt_n m (by omega), zw1_n (show m ≠ f by omega)]
theorem oCt_y {op : Nat → Int32} {f : Nat} (ho : ¬ op f = 0) : ∀ m, f < m → oCt (zw1 op f (nI 0)) m + 1 = oCt op m
  | 0, h => by omega
  | m + 1, h => by
    unfold oCt
    by_cases q : m = f
    · rw [q, zw1_e, if_pos (by decide), if_neg ho, oCt_n f (Nat.le_refl f)]
    · have e := oCt_y ho m (by omega)
      rw [zw1_n q]
      split
      · exact e
      · omega
theorem oCt_mo {op : Nat → Int32} {f : Nat} : ∀ m, oCt (zw1 op f (nI 0)) m ≤ oCt op m
  | 0 => Nat.le_refl 0
  | m + 1 => by
    have e := oCt_mo (op := op) (f := f) m
    unfold oCt
    by_cases q : m = f
    · rw [q, zw1_e, if_pos (by decide)]
      rw [q] at e
      split <;> omega
    · rw [zw1_n q]
      split <;> omega

section
end

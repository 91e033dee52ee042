/-! ===== the changes ===== -/
section
variable {l : Launch} {G : zG} {y1 y2 y8 : zMD} {as : List Value} {M : zMem} {S : Nat → Nat → Int64} {c d n w fr lo : Nat} {u v : Nat → Int32} {e : Int32} {sl : Nat → Int32} {cd : Nat → Nat} {xs : List Nat} {P : Option Value → zMem → Prop}
theorem opI_y {k : Option Nat} {th : Nat} {r : Int32} (hI : IV M S c d n u w v e sl) (hL : ∀ Q1, zCx2 l G y8 10 400 5 30 (.ref 0 :: as) M Q1 → wI Q1 xs → zCh l G y1 11 430 5 30 (.ref 0 :: (as ++ [.ref 956])) M (wQ Q1 cd)) (h8 : zCx2 l G y8 10 400 5 30 (.ref 0 :: as) M (zXr k M P)) (hr : fr ≤ 7 ∧ lo ≤ 240) (h9 : ∀ M1, mSh M1 → zCm l G y2 fr lo 0 0 (.ref 941 :: as) (zsL M1 942 (S 630)) (zD (some (.int r)) (zsL (zsI M1 941 6 (nI th)) 942 (S 630)))) (hq : ∃ x, k = some x ∧ x ∈ xs ∧ th = cd x ∧ ¬ nI (cd x) = nI 0) : opI l G y1 y2 as M := by
  obtain ⟨x, rfl, hk, rfl, hk0⟩ := hq
  exact opI_x hI hL h8 hk hk0 hr (h9 M)
theorem opJ_y {k : Option Nat} {th : Nat} {r : Int64} (hI : IV M S c d n u w v e sl) (hL : ∀ Q1, zCx2 l G y8 10 400 5 30 (.ref 0 :: as) M Q1 → wJ Q1 xs → zCh l G y1 11 430 5 30 (.ref 0 :: (as ++ [.ref 956])) M (wQJ Q1 cd)) (h8 : zCx2 l G y8 10 400 5 30 (.ref 0 :: as) M (zXr k M P)) (hr : fr ≤ 7 ∧ lo ≤ 240) (h9 : ∀ M1, mSh M1 → zCm l G y2 fr lo 0 0 (.ref 941 :: as) (zsL M1 942 (S 630)) (zD (some (.long r)) (zsL (zsI M1 941 6 (nI th)) 942 (S 630)))) (hq : ∃ x, k = some x ∧ x ∈ xs ∧ th = cd x ∧ ¬ nI (cd x) = nI 0) : opJ l G y1 y2 as M := by
  obtain ⟨x, rfl, hk, rfl, hk0⟩ := hq
  exact opJ_x hI hL h8 hk hk0 hr (h9 M)
end
theorem hx21 {A B : Prop} [Decidable A] [Decidable B] (h : ¬ (A ∧ B)) : ∃ x, eo A 2 (eo B 1 none) = some x ∧ x ∈ [2, 1] ∧ t2 A B 1 2 = (fun x : Nat => if x = 2 then 1 else 2) x ∧ ¬ nI ((fun x : Nat => if x = 2 then 1 else 2) x) = nI 0 := by
  by_cases a : A
  · exact ⟨1, by simp [eo, a, show ¬ B from fun b => h ⟨a, b⟩], by simp, by simp [t2, a, show ¬ B from fun b => h ⟨a, b⟩], by show ¬ nI 2 = nI 0; decide⟩
  · exact ⟨2, by simp [eo, a], by simp, by simp [t2, a], by show ¬ nI 1 = nI 0; decide⟩
theorem hx12 {A B : Prop} [Decidable A] [Decidable B] (h : ¬ (A ∧ B)) : ∃ x, eo A 1 (eo B 2 none) = some x ∧ x ∈ [1, 2] ∧ t2 A B 1 2 = (fun x : Nat => if x = 1 then 1 else 2) x ∧ ¬ nI ((fun x : Nat => if x = 1 then 1 else 2) x) = nI 0 := by
  by_cases a : A
  · exact ⟨2, by simp [eo, a, show ¬ B from fun b => h ⟨a, b⟩], by simp, by simp [t2, a, show ¬ B from fun b => h ⟨a, b⟩], by show ¬ nI 2 = nI 0; decide⟩
  · exact ⟨1, by simp [eo, a], by simp, by simp [t2, a], by show ¬ nI 1 = nI 0; decide⟩
theorem hxs {A B : Prop} [Decidable A] [Decidable B] {k : Nat} (h : ¬ (A ∧ B)) : ∃ x, eo A k (eo B k none) = some x ∧ x ∈ [k] ∧ 1 = (fun _ : Nat => 1) x ∧ ¬ nI ((fun _ : Nat => 1) x) = nI 0 := by
  by_cases a : A
  · exact ⟨k, by simp [eo, a, show ¬ B from fun b => h ⟨a, b⟩], by simp, rfl, by show ¬ nI 1 = nI 0; decide⟩
  · exact ⟨k, by simp [eo, a], by simp, rfl, by show ¬ nI 1 = nI 0; decide⟩
theorem hx1 {A : Prop} [Decidable A] {k : Nat} (h : ¬ A) : ∃ x, eo A k none = some x ∧ x ∈ [k] ∧ 1 = (fun _ : Nat => 1) x ∧ ¬ nI ((fun _ : Nat => 1) x) = nI 0 :=
  ⟨k, by simp [eo, h], by simp, rfl, by show ¬ nI 1 = nI 0; decide⟩
theorem hx2x {A B C : Prop} [Decidable A] [Decidable B] [Decidable C] (h : ¬ (A ∧ B ∧ C)) : ∃ x, eo A 2 (eo B 1 (eo C 1 none)) = some x ∧ x ∈ [2, 1] ∧ t2 A (B ∧ C) 1 2 = (fun x : Nat => if x = 2 then 1 else 2) x ∧ ¬ nI ((fun x : Nat => if x = 2 then 1 else 2) x) = nI 0 := by
  by_cases a : A
  · refine ⟨1, ?_, by simp, ?_, by show ¬ nI 2 = nI 0; decide⟩
    · by_cases b : B
      · simp [eo, a, b, show ¬ C from fun q => h ⟨a, b, q⟩]
      · simp [eo, a, b]
    · simp only [t2, if_pos a, if_neg (fun q : B ∧ C => h ⟨a, q⟩)]
      rfl
  · exact ⟨2, by simp [eo, a], by simp, by simp [t2, a], by show ¬ nI 1 = nI 0; decide⟩
theorem okN {α : Type} {r : α} {xs : List Nat} {cd : Nat → Nat} : ((none : Option Nat) = none ∧ 0 = 0 ∧ r = r) ∨ ∃ x, (none : Option Nat) = some x ∧ x ∈ xs ∧ 0 = cd x ∧ ¬ nI (cd x) = nI 0 := Or.inl ⟨rfl, rfl, rfl⟩
theorem nLe_add {x y : Int32} {a b k : Nat} (hx : nLe x 0 a) (hy : nLe y 0 b) (h : x + y ≤ nI k) (ha : a < 20000) (hb : b < 20000) (hk : k < 100000) : nLe (x + y) 0 k := by
  obtain ⟨m, rfl, -, hm⟩ := hx
  obtain ⟨j, rfl, -, hj⟩ := hy
  rw [nI_add] at h ⊢
  exact ⟨m + j, rfl, by omega, nle h (by omega) hk⟩
section
variable {l : Launch} {G : zG} {M : zMem}
theorem op_use (hl : l.stackTraces = false) (hI : INV M) (a b : Int32) : opI l G mL_use mX9_use [.int a, .int b] M := by
  obtain ⟨S, c, d, n, u, w, v, e, sl, hI⟩ := hI
  have hg := hI.g
  have hf20 := hg.f20
  have ht4 := hg.t4
  obtain ⟨p, hs⟩ := hI.W 630 zst_now
  by_cases hx : inN a (gN (S 630) 3) ∧ (nI 1 ≤ b ∧ b ≤ nI 9999)
  · obtain ⟨h1, h2⟩ := hx
    obtain ⟨f, rfl, f9⟩ := inN_nat h1 (by omega)
    by_cases hr : gf (S 630) f 2 + b ≤ nI 9999
    · exact opI_p hI (fun Q1 h hw => c_L_use hl hI.K _ _ h hw) (c_X8_use hl hI.x hI.W hs hI.F hI.hc hI.c8 hI.hd hI.d8 f9 h2 hr) (gInv_fj hg f9 (Or.inr (Or.inl rfl)) (fun q => absurd q (by decide)) (fun _ => nLe_add (hg.2.2.2.2.1.2.2 f f9).2.1 ((nLe_of (lo := 1) (hi := 9999) h2.1 h2.2 (by decide) (by decide)).mono (lo' := 0) (hi' := 9999) (by decide) (by decide)) hr (by decide) (by decide) (by decide))) (by decide) (fun M1 hm h5 => c_X9_use hl hm hg.1 f9 h2 h5 hI.c8 hr)
    · exact opI_q hI (fun Q1 h hw => c_L_use hl hI.K _ _ h hw) (c_X8_use_r hl hI.x hI.W hs hI.F hI.hc hI.c8 hI.hd hI.d8 f9 h2 hr) (by decide) (fun M1 hm => c_X9_use_r hl hm hg.1 f9 h2 hr) okN
  · exact opI_y hI (fun Q1 h hw => c_L_use hl hI.K _ _ h hw) (c_X8_use_x hl hI.x hI.W hs hI.F hI.hc hI.c8 hI.hd hI.d8 a b hx) (by decide) (fun M1 hm => c_X9_use_x hl hm hg.1 a b hx) (hx21 hx)
theorem op_pin (hl : l.stackTraces = false) (hI : INV M) (a b : Int32) : opI l G mL_pin mX9_pin [.int a, .int b] M := by
  obtain ⟨S, c, d, n, u, w, v, e, sl, hI⟩ := hI
  have hg := hI.g
  have hf20 := hg.f20
  have ht4 := hg.t4
  obtain ⟨p, hs⟩ := hI.W 630 zst_now
  by_cases hx : inN a (gN (S 630) 3) ∧ (nI 0 ≤ b ∧ b ≤ nI 9999)
  · obtain ⟨h1, h2⟩ := hx
    obtain ⟨f, rfl, f9⟩ := inN_nat h1 (by omega)
    exact opI_p hI (fun Q1 h hw => c_L_pin hl hI.K _ _ h hw) (c_X8_pin hl hI.x hI.W hs hI.F hI.hc hI.c8 hI.hd hI.d8 f9 h2) (gInv_fj hg f9 (Or.inr (Or.inr rfl)) (fun q => absurd q (by decide)) (fun _ => nLe_of (lo := 0) (hi := 9999) h2.1 h2.2 (by decide) (by decide))) (by decide) (fun M1 hm h5 => c_X9_pin hl hm hg.1 f9 h2 h5 hI.c8)
  · exact opI_y hI (fun Q1 h hw => c_L_pin hl hI.K _ _ h hw) (c_X8_pin_x hl hI.x hI.W hs hI.F hI.hc hI.c8 hI.hd hI.d8 a b hx) (by decide) (fun M1 hm => c_X9_pin_x hl hm hg.1 a b hx) (hx21 hx)
theorem op_add (hl : l.stackTraces = false) (hI : INV M) (a b : Int32) : opI l G mL_add mX9_add [.int a, .int b] M := by
  obtain ⟨S, c, d, n, u, w, v, e, sl, hI⟩ := hI
  have hg := hI.g
  have hf20 := hg.f20
  have ht4 := hg.t4
  obtain ⟨p, hs⟩ := hI.W 630 zst_now
  by_cases hx : (nI 1 ≤ a ∧ a ≤ nI 999) ∧ inN b (gN (S 630) 2)
  · obtain ⟨h1, h2⟩ := hx
    obtain ⟨t, rfl, t9⟩ := inN_nat h2 (by omega)
    have ha := nLe_of (lo := 1) (hi := 999) h1.1 h1.2 (by decide) (by decide)
    have hroom := room_g (x := nI t) hg.f20 (hg.2.2.2.2.1.2.1 t t9).1 (fun f hf => (hg.2.2.2.2.1.2.2 f hf).1) (ha.mono (by decide) (by decide))
    by_cases hr : gN (S 630) 3 = 20
    · exact opI_q hI (fun Q1 h hw => c_L_add hl hI.K _ _ h hw) (c_X8_add_f hl hI.x hI.W hs hI.F hI.hc hI.c8 hI.hd hI.d8 h1 t9 hr) (by decide) (fun M1 hm => c_X9_add_f hl hm hg.1 h1 t9 hr) okN
    · by_cases hr2 : zfull (S 630) (nI t) (gN (S 630) 3) + a ≤ gt (S 630) t 0
      · refine opI_p (fr := 4) (lo := 94) hI (fun Q1 h hw => c_L_add hl hI.K _ _ h hw) (c_X8_add hl hI.x hI.W hs hI.F hI.hc hI.c8 hI.hd hI.d8 h1 t9 hr hr2) (gInv_add hg (by omega) t9 ha) (by decide) (fun M1 hm h5 => ?_)
        have := c_X9_add (G := G) hl hm hg.1 h1 t9 h5 hI.c8 (hg.i 3 (by omega)) hr (hroom.mp hr2)
        rw [add_row (by omega)] at this
        exact this
      · exact opI_q hI (fun Q1 h hw => c_L_add hl hI.K _ _ h hw) (c_X8_add_r hl hI.x hI.W hs hI.F hI.hc hI.c8 hI.hd hI.d8 h1 t9 hr hr2) (by decide) (fun M1 hm => c_X9_add_r hl hm hg.1 h1 t9 hr (Classical.not_not.mp (fun q => hr2 (hroom.mpr q)))) okN
  · exact opI_y hI (fun Q1 h hw => c_L_add hl hI.K _ _ h hw) (c_X8_add_x hl hI.x hI.W hs hI.F hI.hc hI.c8 hI.hd hI.d8 a b hx) (by decide) (fun M1 hm => c_X9_add_x hl hm hg.1 a b hx) (hx12 hx)
theorem op_move (hl : l.stackTraces = false) (hI : INV M) (a b : Int32) : opI l G mL_move mX9_move [.int a, .int b] M := by
  obtain ⟨S, c, d, n, u, w, v, e, sl, hI⟩ := hI
  have hg := hI.g
  have hf20 := hg.f20
  have ht4 := hg.t4
  obtain ⟨p, hs⟩ := hI.W 630 zst_now
  by_cases hx : inN a (gN (S 630) 3) ∧ inN b (gN (S 630) 2)
  · obtain ⟨h1, h2⟩ := hx
    obtain ⟨f, rfl, f9⟩ := inN_nat h1 (by omega)
    obtain ⟨t, rfl, t9⟩ := inN_nat h2 (by omega)
    have i4 := hg.i 4 (by omega)
    have hroom := room_g (x := nI t) hg.f20 (hg.2.2.2.2.1.2.1 t t9).1 (fun f hf => (hg.2.2.2.2.1.2.2 f hf).1) ((hg.2.2.2.2.1.2.2 f f9).1.mono (lo' := 0) (hi' := 999) (by decide) (by decide))
    by_cases hr : nI (gN (S 630) 4) < gf (S 630) f 3
    · exact opI_q hI (fun Q1 h hw => c_L_move hl hI.K _ _ h hw) (c_X8_move_p hl hI.x hI.W hs hI.F hI.hc hI.c8 hI.hd hI.d8 f9 t9 hr) (by decide) (fun M1 hm => c_X9_move_p hl hm hg.1 i4 f9 t9 hr) okN
    · by_cases hr2 : gN (S 630) (58 + 51 * f + 1) = t
      · exact opI_q hI (fun Q1 h hw => c_L_move hl hI.K _ _ h hw) (c_X8_move_s hl hI.x hI.W hs hI.F hI.hc hI.c8 hI.hd hI.d8 f9 t9 hr hr2) (by decide) (fun M1 hm => c_X9_move_s hl hm hg.1 i4 f9 t9 hr hr2) okN
      · by_cases hr3 : zfull (S 630) (nI t) (gN (S 630) 3) + gf (S 630) f 0 ≤ gt (S 630) t 0
        · exact opI_p hI (fun Q1 h hw => c_L_move hl hI.K _ _ h hw) (c_X8_move hl hI.x hI.W hs hI.F hI.hc hI.c8 hI.hd hI.d8 f9 t9 hr hr2 hr3) (gInv_go hg f9 t9) (by decide) (fun M1 hm h5 => c_X9_move hl hm hg.1 i4 f9 t9 h5 hI.c8 (hg.i 5 (by omega)) hr hr2 (hroom.mp hr3))
        · exact opI_q hI (fun Q1 h hw => c_L_move hl hI.K _ _ h hw) (c_X8_move_r hl hI.x hI.W hs hI.F hI.hc hI.c8 hI.hd hI.d8 f9 t9 hr hr2 hr3) (by decide) (fun M1 hm => c_X9_move_r hl hm hg.1 i4 f9 t9 hr hr2 (Classical.not_not.mp (fun q => hr3 (hroom.mpr q)))) okN
  · exact opI_y hI (fun Q1 h hw => c_L_move hl hI.K _ _ h hw) (c_X8_move_x hl hI.x hI.W hs hI.F hI.hc hI.c8 hI.hd hI.d8 a b hx) (by decide) (fun M1 hm => c_X9_move_x hl hm hg.1 a b hx) (hxs hx)
theorem op_learn (hl : l.stackTraces = false) (hI : INV M) (a b : Int32) : opI l G mL_learn mX9_learn [.int a, .int b] M := by
  obtain ⟨S, c, d, n, u, w, v, e, sl, hI⟩ := hI
  have hg := hI.g
  have hf20 := hg.f20
  have ht4 := hg.t4
  obtain ⟨p, hs⟩ := hI.W 630 zst_now
  by_cases hx : (nI 2 ≤ a ∧ a ≤ nI 12) ∧ (nI 1 ≤ b ∧ b ≤ nI 8)
  · obtain ⟨h1, h2⟩ := hx
    obtain ⟨y, rfl, y2, y12⟩ := nLe_of (lo := 2) (hi := 12) h1.1 h1.2 (by decide) (by decide)
    obtain ⟨r, hr, r2, r12⟩ := nLe_of (lo := 1) (hi := 8) h2.1 h2.2 (by decide) (by decide)
    subst hr
    exact opI_p hI (fun Q1 h hw => c_L_learn hl hI.K _ _ h hw) (c_X8_learn hl hI.x hI.W hs hI.F hI.hc hI.c8 hI.hd hI.d8 ⟨y2, y12⟩ h2 hg.k) (gInv_learn hg ⟨y2, y12⟩ ⟨r2, r12⟩) (by decide) (fun M1 hm h5 => c_X9_learn hl hm hg.1 h5 hI.c8 ⟨y2, y12⟩ h2 hg.k)
  · exact opI_y hI (fun Q1 h hw => c_L_learn hl hI.K _ _ h hw) (c_X8_learn_x hl hI.x hI.W hs hI.F hI.hc hI.c8 hI.hd hI.d8 a b hx) (by decide) (fun M1 hm => c_X9_learn_x hl hm hg.1 a b hx) (hxs hx)
theorem op_setTier (hl : l.stackTraces = false) (hI : INV M) (a b b2 : Int32) : opI l G mL_setTier mX9_setTier [.int a, .int b, .int b2] M := by
  obtain ⟨S, c, d, n, u, w, v, e, sl, hI⟩ := hI
  have hg := hI.g
  have hf20 := hg.f20
  have ht4 := hg.t4
  obtain ⟨p, hs⟩ := hI.W 630 zst_now
  by_cases hx : inN a (gN (S 630) 2) ∧ (inN b 5 ∧ ((if b = 0 then nI 1 else nI 0) ≤ b2 ∧ b2 ≤ (if b = 0 then nI 99999 else nI 99)))
  · obtain ⟨h1, h2, h3⟩ := hx
    obtain ⟨t, rfl, t9⟩ := inN_nat h1 (by omega)
    obtain ⟨k, rfl, k5⟩ := inN_nat h2 (by omega)
    have h3' : (if nI k = 0 then nI 1 else nI 0) ≤ b2 ∧ b2 ≤ (if nI k = 0 then nI 99999 else nI 99) := h3
    have hk : ∀ z : k = 0, nLe b2 1 99999 := fun z => by
      subst z
      exact nLe_of (lo := 1) (hi := 99999) h3'.1 h3'.2 (by decide) (by decide)
    have hk2 : ∀ z : ¬ k = 0, nLe b2 0 99 := fun z => by
      have e0 : ¬ nI k = 0 := fun q => z (by have := congrArg Int32.toNatClampNeg q; rw [nI_cl (show k < 5 by omega) (by omega)] at this; exact this)
      rw [if_neg e0, if_neg e0] at h3'
      exact nLe_of (lo := 0) (hi := 99) h3'.1 h3'.2 (by decide) (by decide)
    by_cases hr : k = 0 ∧ b2 < zfull (S 630) (nI t) (gN (S 630) 3)
    · exact opI_q hI (fun Q1 h hw => c_L_setTier hl hI.K _ _ _ h hw) (c_X8_setTier_r hl hI.x hI.W hs hI.F hI.hc hI.c8 hI.hd hI.d8 t9 k5 h3' hr.1 hr.2) (by decide) (fun M1 hm => c_X9_setTier_r hl hm hg.1 t9 k5 ⟨h2, h3⟩ hr.1 hr.2) okN
    · exact opI_p hI (fun Q1 h hw => c_L_setTier hl hI.K _ _ _ h hw) (c_X8_setTier hl hI.x hI.W hs hI.F hI.hc hI.c8 hI.hd hI.d8 t9 k5 h3' (fun z q => hr ⟨z, q⟩)) (gInv_tier hg t9 k5 hk hk2) (by decide) (fun M1 hm h5 => c_X9_setTier hl hm hg.1 t9 k5 ⟨h2, h3⟩ h5 hI.c8 (fun z q => hr ⟨z, q⟩))
  · exact opI_y hI (fun Q1 h hw => c_L_setTier hl hI.K _ _ _ h hw) (c_X8_setTier_x hl hI.x hI.W hs hI.F hI.hc hI.c8 hI.hd hI.d8 a b b2 hx) (by decide) (fun M1 hm => c_X9_setTier_x hl hm hg.1 a b b2 hx) (hx2x hx)
end

/-! ===== an operation on both sides ===== -/
theorem zCh.imp {l : Launch} {G : zG} {y : zMD} {fr lo mc ms : Nat} {as : List Value} {M : zMem} {Q Q' : zOut → zMem → Prop} (h : zCh l G y fr lo mc ms as M Q) (hq : ∀ v M', Q (.inl v) M' → Q' (.inl v) M') : zCh l G y fr lo mc ms as M Q' := by
  have h' : MetFree l (yN y) (headSpec (zwsH y) (zrm fr lo mc ms)) (zPc G as M) (fun _ _ _ _ _ => True) (fun a st o t => zQr G M mc Q a st o t ∧ ∃ L, FrameEnd st o t L mc ms ∧ ∀ q ∈ L, zA G q.base) := h
  show MetFree l (yN y) (headSpec (zwsH y) (zrm fr lo mc ms)) (zPc G as M) (fun _ _ _ _ _ => True) (fun a st o t => zQr G M mc Q' a st o t ∧ ∃ L, FrameEnd st o t L mc ms ∧ ∀ q ∈ L, zA G q.base)
  refine MetFree.mono h' (fun _ _ h => h) (fun _ _ _ _ _ h => h) (fun a s o t _ hq2 => ?_)
  obtain ⟨⟨⟨v, M', h1, h2, h3⟩, h4⟩, h5⟩ := hq2
  exact ⟨⟨⟨v, M', h1, hq v M' h2, h3⟩, h4⟩, h5⟩
/-- the reference's part -/
def opR (l : Launch) (G : zG) (y2 : zMD) (as : List Value) (M1 : zMem) (P : Option Value → zMem → Prop) : Prop := zK M1 941 = 10 ∧ ∃ fr lo, (fr ≤ 7 ∧ lo ≤ 240) ∧ zCm l G y2 fr lo 0 0 (.ref 941 :: as) M1 (fun o M2 => ∃ r, o = .inl r ∧ P r M2)
/-- by a wrapper: an int, a long, nothing -/
def opI (l : Launch) (G : zG) (y1 y2 : zMD) (as : List Value) (M : zMem) : Prop := zCh l G y1 11 430 5 30 (.ref 0 :: (as ++ [.ref 956])) M (fun o M1 => ∃ x : Int32, o = .inl (some (.int x)) ∧ opR l G y2 as M1 (fun r M2 => ∃ b : Int32, r = some (.int b) ∧ zI M2 941 6 = x ∧ (x = nI 0 → zJ M2 956 0 = b.toInt64) ∧ INV M2))
def opJ (l : Launch) (G : zG) (y1 y2 : zMD) (as : List Value) (M : zMem) : Prop := zCh l G y1 11 430 5 30 (.ref 0 :: (as ++ [.ref 956])) M (fun o M1 => ∃ x : Int32, o = .inl (some (.int x)) ∧ opR l G y2 as M1 (fun r M2 => ∃ b : Int64, r = some (.long b) ∧ zI M2 941 6 = x ∧ (x = nI 0 → zJ M2 956 0 = b) ∧ INV M2))
def opV (l : Launch) (G : zG) (y1 y2 : zMD) (as : List Value) (M : zMem) : Prop := zCh l G y1 11 430 5 30 (.ref 0 :: as) M (fun o M1 => ∃ x : Int32, o = .inl (some (.int x)) ∧ opR l G y2 as M1 (fun r M2 => r = none ∧ zI M2 941 6 = x ∧ INV M2))
/-- without one: the same answer -/
def cI : Option Value → Prop := fun r => ∃ b : Int32, r = some (.int b)
def cJ : Option Value → Prop := fun r => ∃ b : Int64, r = some (.long b)
def cD : Option Value → Prop := fun r => ∃ b : UInt64, r = some (.double b)
def cF : Option Value → Prop := fun r => ∃ b : UInt32, r = some (.float b) ∧ vf_n64 (FP.f2d b)
def opD (l : Launch) (G : zG) (C : Option Value → Prop) (y1 y2 : zMD) (M : zMem) : Prop := ∃ fr lo mc ms, (fr ≤ 10 ∧ lo ≤ 400 ∧ mc ≤ 5 ∧ ms ≤ 30) ∧ zCm l G y1 fr lo mc ms [.ref 0] M (fun o M1 => ∃ x, o = .inl x ∧ C x ∧ opR l G y2 [] M1 (fun r M2 => r = x ∧ INV M2))
/-- the reference's answer, the worlds behind it -/
def rE (M1 : zMem) (S : Nat → Nat → Int64) (c d n : Nat) (u : Nat → Int32) (w : Nat) (v : Nat → Int32) (e : Int32) (sl : Nat → Int32) (r : Option Value) : zOut → zMem → Prop := fun o M2 => o = .inl r ∧ RFs M2 S c d n u w v e sl ∧ zag M1 M2 (fun b => b < 941 ∨ b = 956)
section
variable {l : Launch} {G : zG} {y1 y2 y8 : zMD} {as : List Value} {M : zMem} {S S' : Nat → Nat → Int64} {c d n w c' d' n' w' fr lo : Nat} {u v u' v' : Nat → Int32} {e e' : Int32} {sl sl' : Nat → Int32} {cd : Nat → Nat} {xs : List Nat} {P : Option Value → zMem → Prop}
theorem IV.x (h : IV M S c d n u w v e sl) : xSh M := h.2.1.1
theorem IV.K (h : IV M S c d n u w v e sl) : zK M 0 = 8 + 1 := h.2.1.1.K
theorem IV.W (h : IV M S c d n u w v e sl) : rW M S := h.2.1.2.1
theorem IV.F (h : IV M S c d n u w v e sl) : zF M = 1 := h.2.2.2.2.2
theorem IV.g (h : IV M S c d n u w v e sl) : gInv (S 630) := h.1.2.2.2.2.2.1
theorem IV.hc (h : IV M S c d n u w v e sl) : zI M 12 0 = nI c := h.2.1.2.2.1
theorem IV.hd (h : IV M S c d n u w v e sl) : zI M 12 1 = nI d := h.2.1.2.2.2.1
theorem IV.c8 (h : IV M S c d n u w v e sl) : c ≤ 8 := h.1.1
theorem IV.d8 (h : IV M S c d n u w v e sl) : d < 8 := h.1.2.1
theorem RFs.m (h : RFs M S c d n u w v e sl) : mSh M := h.1
theorem RFs.c5 (h : RFs M S c d n u w v e sl) : zI M 941 5 = nI c := h.2.2.1
/-- behind the reference's part, all stands again -/
theorem inv_of {M1 M2 : zMem} (ho : gOK S' c' d' n' u' w' sl') (h1 : CLs M1 S' c' d' n' u' w' v' e' sl') (hO : OTs M1) (h2 : RFs M2 S' c' d' n' u' w' v' e' sl') (q : zag M1 M2 (fun b => b < 941 ∨ b = 956)) : INV M2 :=
  ⟨S', c', d', n', u', w', v', e', sl', ho, h1.keep (q.mono fun b hb => Or.inl hb), h2, hO.keep q.1⟩
theorem opR_of {M1 : zMem} {r : Option Value} {R : Option Value → zMem → Prop} (hm : mSh M1) (hr : fr ≤ 7 ∧ lo ≤ 240) (h9 : zCm l G y2 fr lo 0 0 (.ref 941 :: as) M1 (rE M1 S' c' d' n' u' w' v' e' sl' r)) (ho : gOK S' c' d' n' u' w' sl') (h1 : CLs M1 S' c' d' n' u' w' v' e' sl') (hO : OTs M1) (hR : ∀ M2, RFs M2 S' c' d' n' u' w' v' e' sl' → zJ M2 956 = zJ M1 956 → INV M2 → R r M2) : opR l G y2 as M1 R := by
  refine ⟨hm.1, fr, lo, hr, h9.imp fun v0 M2 q => ?_⟩
  obtain ⟨q1, q2, q3⟩ := q
  refine ⟨v0, rfl, ?_⟩
  have q1' := Sum.inl.inj q1
  subst q1'
  exact hR M2 q2 (q3.2 956 (Or.inr rfl)).2.1 (inv_of ho h1 hO q2 q3)
theorem opR_th {M1 : zMem} {r : Option Value} {th : Int32} {R : Option Value → zMem → Prop} (hm : mSh M1) (hr : fr ≤ 7 ∧ lo ≤ 240) (h9 : zCm l G y2 fr lo 0 0 (.ref 941 :: as) M1 (fun o M2 => rE M1 S' c' d' n' u' w' v' e' sl' r o M2 ∧ zI M2 941 6 = th)) (ho : gOK S' c' d' n' u' w' sl') (h1 : CLs M1 S' c' d' n' u' w' v' e' sl') (hO : OTs M1) (hR : ∀ M2, zI M2 941 6 = th → zJ M2 956 = zJ M1 956 → INV M2 → R r M2) : opR l G y2 as M1 R := by
  refine ⟨hm.1, fr, lo, hr, h9.imp fun v0 M2 q => ?_⟩
  obtain ⟨⟨q1, q2, q3⟩, q4⟩ := q
  refine ⟨v0, rfl, ?_⟩
  have q1' := Sum.inl.inj q1
  subst q1'
  exact hR M2 q4 (q3.2 956 (Or.inr rfl)).2.1 (inv_of ho h1 hO q2 q3)
theorem CLs.out {x : Int64} (h : CLs M S c d n u w v e sl) : CLs (zsJ M 956 0 x) S c d n u w v e sl := h.keep ⟨rfl, fun b hb => ⟨rfl, if_neg (by omega), rfl⟩⟩
theorem RFs.out {x : Int64} (h : RFs M S c d n u w v e sl) : RFs (zsJ M 956 0 x) S c d n u w v e sl := h.keep ⟨rfl, fun b hb => ⟨rfl, if_neg hb.2, rfl⟩⟩
theorem RFs.bel {M1 : zMem} (h : RFs M S c d n u w v e sl) (q : zag M M1 cLo) : RFs M1 S c d n u w v e sl := h.keep (q.mono fun b hb => hb.1)
theorem zJ_out {M : zMem} {x : Int64} : zJ (zsJ M 956 0 x) 956 0 = x := by
  unfold zJ zsJ zu
  simp
theorem zI_thr {M : zMem} {t : Int32} : zI (zsI M 941 6 t) 941 6 = t := by
  unfold zI zsI zu
  simp
/-- what is thrown on both sides: nothing has changed -/
theorem opI_x {k : Nat} (hI : IV M S c d n u w v e sl) (hL : ∀ Q1, zCx2 l G y8 10 400 5 30 (.ref 0 :: as) M Q1 → wI Q1 xs → zCh l G y1 11 430 5 30 (.ref 0 :: (as ++ [.ref 956])) M (wQ Q1 cd)) (h8 : zCx2 l G y8 10 400 5 30 (.ref 0 :: as) M (zXr (some k) M P)) (hk : k ∈ xs) (hk0 : ¬ nI (cd k) = nI 0) {r : Int32} (hr : fr ≤ 7 ∧ lo ≤ 240) (h9 : mSh M → zCm l G y2 fr lo 0 0 (.ref 941 :: as) (zsL M 942 (S 630)) (zD (some (.int r)) (zsL (zsI M 941 6 (nI (cd k))) 942 (S 630)))) : opI l G y1 y2 as M := by
  obtain ⟨ho, hc, hf, hO⟩ := hI
  refine (hL _ h8 ⟨fun v0 M' q => (by cases q.1), fun x M' q => ?_⟩).imp fun v0 M1 q => ?_
  · obtain ⟨q1, rfl⟩ := q
    cases q1
    exact ⟨hk, hO.2.2⟩
  · rcases q with ⟨x, M2, q1, -⟩ | ⟨x, ⟨q1, rfl⟩, q2⟩
    · cases q1.1
    · cases q1
      refine ⟨_, q2, opR_th (r := some (.int r)) (th := nI (cd k)) hf.m hr ?_ ho hc hO fun M2 z1 z2 z3 => ⟨r, rfl, z1, fun z => absurd z hk0, z3⟩⟩
      have := h9 hf.m
      rw [hf.id] at this
      refine this.imp fun v0 M2 q => ?_
      obtain ⟨q1, rfl⟩ := q
      have e1 : zsL (zsI M1 941 6 (nI (cd k))) 942 (S 630) = zsI M1 941 6 (nI (cd k)) := (hf.th (t := nI (cd k))).id
      rw [e1]
      exact ⟨⟨q1, hf.th, zag_th⟩, zI_thr⟩
/-- an answer on both sides -/
theorem opI_u {r : Int32} (hI : IV M S c d n u w v e sl) (hL : ∀ Q1, zCx2 l G y8 10 400 5 30 (.ref 0 :: as) M Q1 → wI Q1 xs → zCh l G y1 11 430 5 30 (.ref 0 :: (as ++ [.ref 956])) M (wQ Q1 cd)) (h8 : zCx2 l G y8 10 400 5 30 (.ref 0 :: as) M (zXr none M P)) (hP : ∀ v0 M1, P v0 M1 → v0 = some (.int r) ∧ CLs M1 S' c' d' n' u' w' v' e' sl' ∧ zag M M1 cLo) (ho' : gOK S' c' d' n' u' w' sl') (hr : fr ≤ 7 ∧ lo ≤ 240) (h9 : ∀ M1, RFs M1 S c d n u w v e sl → zCm l G y2 fr lo 0 0 (.ref 941 :: as) M1 (fun o M2 => rE M1 S' c' d' n' u' w' v' e' sl' (some (.int r)) o M2 ∧ zI M2 941 6 = nI 0)) : opI l G y1 y2 as M := by
  obtain ⟨ho, hc, hf, hO⟩ := hI
  refine (hL _ h8 ⟨fun v0 M' q => ?_, fun x M' q => by cases q.1⟩).imp fun v0 M1 q => ?_
  · obtain ⟨q1, -, q3⟩ := hP _ _ q.2
    have := hO.keep q3.1
    exact ⟨⟨_, q1⟩, this⟩
  · rcases q with ⟨x, M2, ⟨-, q1⟩, q2, rfl⟩ | ⟨x, ⟨q1, -⟩, -⟩
    · obtain ⟨z1, z2, z3⟩ := hP _ _ q1
      cases z1
      have f1 := (hf.bel z3).out (x := r.toInt64)
      exact ⟨_, q2, opR_th (r := some (.int r)) f1.m hr (h9 _ f1) ho' z2.out ((hO.keep z3.1).keep rfl) fun M3 y1 y2 y3 => ⟨r, rfl, y1, fun _ => by rw [y2]; exact zJ_out, y3⟩⟩
    · cases q1
/-- a question -/
theorem opI_q {r b : Int32} {k : Option Nat} {th : Nat} (hI : IV M S c d n u w v e sl) (hL : ∀ Q1, zCx2 l G y8 10 400 5 30 (.ref 0 :: as) M Q1 → wI Q1 xs → zCh l G y1 11 430 5 30 (.ref 0 :: (as ++ [.ref 956])) M (wQ Q1 cd)) (h8 : zCx2 l G y8 10 400 5 30 (.ref 0 :: as) M (zXr k M (zP1 (some (.int r)) M))) (hr : fr ≤ 7 ∧ lo ≤ 240) (h9 : ∀ M1, mSh M1 → zCm l G y2 fr lo 0 0 (.ref 941 :: as) (zsL M1 942 (S 630)) (zD (some (.int b)) (zsL (zsI M1 941 6 (nI th)) 942 (S 630)))) (hq : (k = none ∧ th = 0 ∧ b = r) ∨ ∃ x, k = some x ∧ x ∈ xs ∧ th = cd x ∧ ¬ nI (cd x) = nI 0) : opI l G y1 y2 as M := by
  rcases hq with ⟨rfl, rfl, rfl⟩ | ⟨x, rfl, hk, rfl, hk0⟩
  · refine opI_u (r := b) (e' := e) (v' := v) hI hL h8 (fun v0 M1 q => ?_) hI.1 hr fun M1 hf => ?_
    · obtain ⟨q1, rfl⟩ := q
      exact ⟨q1, hI.2.1, zag.refl _ _⟩
    · have := h9 M1 hf.m
      rw [hf.id] at this
      refine this.imp fun v0 M2 q => ?_
      obtain ⟨q1, rfl⟩ := q
      have e1 : zsL (zsI M1 941 6 (nI 0)) 942 (S 630) = zsI M1 941 6 (nI 0) := (hf.th (t := nI 0)).id
      rw [e1]
      exact ⟨⟨q1, hf.th, zag_th⟩, zI_thr⟩
  · exact opI_x hI hL h8 hk hk0 hr (h9 M)
/-- a change that is remembered -/
theorem opI_p {r : Int32} {g' : Nat → Int64} (hI : IV M S c d n u w v e sl) (hL : ∀ Q1, zCx2 l G y8 10 400 5 30 (.ref 0 :: as) M Q1 → wI Q1 xs → zCh l G y1 11 430 5 30 (.ref 0 :: (as ++ [.ref 956])) M (wQ Q1 cd)) (h8 : zCx2 l G y8 10 400 5 30 (.ref 0 :: as) M (zXr none M (uP (some (.int r)) M S c d g'))) (hg : gInv g') (hr : fr ≤ 7 ∧ lo ≤ 240) (h9 : ∀ M1, mSh M1 → zI M1 941 5 = nI c → zCm l G y2 fr lo 0 0 (.ref 941 :: as) (zsL M1 942 (S 630)) (zD (some (.int r)) (zsL (KP M1 c (S 630)) 942 g'))) : opI l G y1 y2 as M := by
  refine opI_u (r := r) (e' := e) (v' := v) hI hL h8 (fun v0 M1 q => ?_) (hI.1.up hg) hr fun M1 hf => ?_
  · have := hI.2.1.up q
    exact ⟨q.1, this.1, this.2⟩
  · have := h9 M1 hf.m hf.c5
    rw [hf.id] at this
    refine this.imp fun v0 M2 q => ?_
    obtain ⟨q1, rfl⟩ := q
    exact ⟨⟨q1, hf.kp hI.1, zag_KP⟩, rfl⟩
/-- what is thrown on both sides: nothing has changed -/
theorem opJ_x {k : Nat} (hI : IV M S c d n u w v e sl) (hL : ∀ Q1, zCx2 l G y8 10 400 5 30 (.ref 0 :: as) M Q1 → wJ Q1 xs → zCh l G y1 11 430 5 30 (.ref 0 :: (as ++ [.ref 956])) M (wQJ Q1 cd)) (h8 : zCx2 l G y8 10 400 5 30 (.ref 0 :: as) M (zXr (some k) M P)) (hk : k ∈ xs) (hk0 : ¬ nI (cd k) = nI 0) {r : Int64} (hr : fr ≤ 7 ∧ lo ≤ 240) (h9 : mSh M → zCm l G y2 fr lo 0 0 (.ref 941 :: as) (zsL M 942 (S 630)) (zD (some (.long r)) (zsL (zsI M 941 6 (nI (cd k))) 942 (S 630)))) : opJ l G y1 y2 as M := by
  obtain ⟨ho, hc, hf, hO⟩ := hI
  refine (hL _ h8 ⟨fun v0 M' q => (by cases q.1), fun x M' q => ?_⟩).imp fun v0 M1 q => ?_
  · obtain ⟨q1, rfl⟩ := q
    cases q1
    exact ⟨hk, hO.2.2⟩
  · rcases q with ⟨x, M2, q1, -⟩ | ⟨x, ⟨q1, rfl⟩, q2⟩
    · cases q1.1
    · cases q1
      refine ⟨_, q2, opR_th (r := some (.long r)) (th := nI (cd k)) hf.m hr ?_ ho hc hO fun M2 z1 z2 z3 => ⟨r, rfl, z1, fun z => absurd z hk0, z3⟩⟩
      have := h9 hf.m
      rw [hf.id] at this
      refine this.imp fun v0 M2 q => ?_
      obtain ⟨q1, rfl⟩ := q
      have e1 : zsL (zsI M1 941 6 (nI (cd k))) 942 (S 630) = zsI M1 941 6 (nI (cd k)) := (hf.th (t := nI (cd k))).id
      rw [e1]
      exact ⟨⟨q1, hf.th, zag_th⟩, zI_thr⟩
/-- an answer on both sides -/
theorem opJ_u {r : Int64} (hI : IV M S c d n u w v e sl) (hL : ∀ Q1, zCx2 l G y8 10 400 5 30 (.ref 0 :: as) M Q1 → wJ Q1 xs → zCh l G y1 11 430 5 30 (.ref 0 :: (as ++ [.ref 956])) M (wQJ Q1 cd)) (h8 : zCx2 l G y8 10 400 5 30 (.ref 0 :: as) M (zXr none M P)) (hP : ∀ v0 M1, P v0 M1 → v0 = some (.long r) ∧ CLs M1 S' c' d' n' u' w' v' e' sl' ∧ zag M M1 cLo) (ho' : gOK S' c' d' n' u' w' sl') (hr : fr ≤ 7 ∧ lo ≤ 240) (h9 : ∀ M1, RFs M1 S c d n u w v e sl → zCm l G y2 fr lo 0 0 (.ref 941 :: as) M1 (fun o M2 => rE M1 S' c' d' n' u' w' v' e' sl' (some (.long r)) o M2 ∧ zI M2 941 6 = nI 0)) : opJ l G y1 y2 as M := by
  obtain ⟨ho, hc, hf, hO⟩ := hI
  refine (hL _ h8 ⟨fun v0 M' q => ?_, fun x M' q => by cases q.1⟩).imp fun v0 M1 q => ?_
  · obtain ⟨q1, -, q3⟩ := hP _ _ q.2
    have := hO.keep q3.1
    exact ⟨⟨_, q1⟩, this⟩
  · rcases q with ⟨x, M2, ⟨-, q1⟩, q2, rfl⟩ | ⟨x, ⟨q1, -⟩, -⟩
    · obtain ⟨z1, z2, z3⟩ := hP _ _ q1
      cases z1
      have f1 := (hf.bel z3).out (x := r)
      exact ⟨_, q2, opR_th (r := some (.long r)) f1.m hr (h9 _ f1) ho' z2.out ((hO.keep z3.1).keep rfl) fun M3 y1 y2 y3 => ⟨r, rfl, y1, fun _ => by rw [y2]; exact zJ_out, y3⟩⟩
    · cases q1
/-- a question -/
theorem opJ_q {r b : Int64} {k : Option Nat} {th : Nat} (hI : IV M S c d n u w v e sl) (hL : ∀ Q1, zCx2 l G y8 10 400 5 30 (.ref 0 :: as) M Q1 → wJ Q1 xs → zCh l G y1 11 430 5 30 (.ref 0 :: (as ++ [.ref 956])) M (wQJ Q1 cd)) (h8 : zCx2 l G y8 10 400 5 30 (.ref 0 :: as) M (zXr k M (zP1 (some (.long r)) M))) (hr : fr ≤ 7 ∧ lo ≤ 240) (h9 : ∀ M1, mSh M1 → zCm l G y2 fr lo 0 0 (.ref 941 :: as) (zsL M1 942 (S 630)) (zD (some (.long b)) (zsL (zsI M1 941 6 (nI th)) 942 (S 630)))) (hq : (k = none ∧ th = 0 ∧ b = r) ∨ ∃ x, k = some x ∧ x ∈ xs ∧ th = cd x ∧ ¬ nI (cd x) = nI 0) : opJ l G y1 y2 as M := by
  rcases hq with ⟨rfl, rfl, rfl⟩ | ⟨x, rfl, hk, rfl, hk0⟩
  · refine opJ_u (r := b) (e' := e) (v' := v) hI hL h8 (fun v0 M1 q => ?_) hI.1 hr fun M1 hf => ?_
    · obtain ⟨q1, rfl⟩ := q
      exact ⟨q1, hI.2.1, zag.refl _ _⟩
    · have := h9 M1 hf.m
      rw [hf.id] at this
      refine this.imp fun v0 M2 q => ?_
      obtain ⟨q1, rfl⟩ := q
      have e1 : zsL (zsI M1 941 6 (nI 0)) 942 (S 630) = zsI M1 941 6 (nI 0) := (hf.th (t := nI 0)).id
      rw [e1]
      exact ⟨⟨q1, hf.th, zag_th⟩, zI_thr⟩
  · exact opJ_x hI hL h8 hk hk0 hr (h9 M)
/-- a change that is remembered -/
theorem opJ_p {r : Int64} {g' : Nat → Int64} (hI : IV M S c d n u w v e sl) (hL : ∀ Q1, zCx2 l G y8 10 400 5 30 (.ref 0 :: as) M Q1 → wJ Q1 xs → zCh l G y1 11 430 5 30 (.ref 0 :: (as ++ [.ref 956])) M (wQJ Q1 cd)) (h8 : zCx2 l G y8 10 400 5 30 (.ref 0 :: as) M (zXr none M (uP (some (.long r)) M S c d g'))) (hg : gInv g') (hr : fr ≤ 7 ∧ lo ≤ 240) (h9 : ∀ M1, mSh M1 → zI M1 941 5 = nI c → zCm l G y2 fr lo 0 0 (.ref 941 :: as) (zsL M1 942 (S 630)) (zD (some (.long r)) (zsL (KP M1 c (S 630)) 942 g'))) : opJ l G y1 y2 as M := by
  refine opJ_u (r := r) (e' := e) (v' := v) hI hL h8 (fun v0 M1 q => ?_) (hI.1.up hg) hr fun M1 hf => ?_
  · have := hI.2.1.up q
    exact ⟨q.1, this.1, this.2⟩
  · have := h9 M1 hf.m hf.c5
    rw [hf.id] at this
    refine this.imp fun v0 M2 q => ?_
    obtain ⟨q1, rfl⟩ := q
    exact ⟨⟨q1, hf.kp hI.1, zag_KP⟩, rfl⟩
theorem opD_u {C : Option Value → Prop} {r : Option Value} (hC : C r) {fr8 lo8 mc ms : Nat} {Q8 : zOut → zMem → Prop} (hI : IV M S c d n u w v e sl) (hr8 : fr8 ≤ 10 ∧ lo8 ≤ 400 ∧ mc ≤ 5 ∧ ms ≤ 30) (h8 : zCm l G y8 fr8 lo8 mc ms [.ref 0] M Q8) (hP : ∀ v0 M1, Q8 (.inl v0) M1 → v0 = r ∧ CLs M1 S' c' d' n' u' w' v' e' sl' ∧ zag M M1 cLo) (ho' : gOK S' c' d' n' u' w' sl') (hr : fr ≤ 7 ∧ lo ≤ 240) (h9 : ∀ M1, RFs M1 S c d n u w v e sl → zCm l G y2 fr lo 0 0 [.ref 941] M1 (rE M1 S' c' d' n' u' w' v' e' sl' r)) : opD l G C y8 y2 M := by
  obtain ⟨ho, hc, hf, hO⟩ := hI
  refine ⟨fr8, lo8, mc, ms, hr8, h8.imp fun v0 M1 q => ?_⟩
  obtain ⟨rfl, z2, z3⟩ := hP _ _ q
  have f1 := hf.bel z3
  exact ⟨_, rfl, hC, opR_of f1.m hr (h9 _ f1) ho' z2 (hO.keep z3.1) fun M3 y1 y2 y3 => ⟨rfl, y3⟩⟩
end

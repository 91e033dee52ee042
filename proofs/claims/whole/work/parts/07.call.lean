/-! ===== contracts ===== -/
/-- a method's words: its code, and the good words of the tables -/
def zws (y : zMD) : List Cond := Cond.code (yN y) (yC y) (yL y) (yR y) :: zGW
def zwsH (y : zMD) : List Cond := Cond.codeWith (yN y) (yC y) (yL y) (yR y) (yH y) :: zGW
def zrm (fr lo mc ms : Nat) : Room := { frames := fr, cells := mc, slots := ms, locals := lo }
/-- a method's start: its arguments, the world -/
def zPc (G : zG) (as : List Value) (M : zMem) : Array Value → State → Prop := fun v U => v = (as.map (zv G)).toArray ∧ zCx G U U.heap ∧ zwf M ∧ va_P (gD G) vwCl (zW G M) U.heap ∧ (zF M = 0 → U.heap.size ≤ gB G + zT M)
/-- its end by a return -/
def zQr (G : zG) (M : zMem) (mc : Nat) (Q : zOut → zMem → Prop) : Array Value → State → Outcome → State → Prop := fun _ st oc t =>
  (∃ (v : Option Value) (M' : zMem), oc = .returned (v.map (zv G)) ∧ Q (.inl v) M' ∧ zwf M' ∧ va_P (gD G) vwCl (zW G M') t.heap ∧ (zF M' = 0 → zF M = 0 ∧ zT M + mc ≤ zT M')) ∧ va_F (zA G) st t
/-- .. by a throw -/
def zXc (G : zG) (Q : zOut → zMem → Prop) : String → State → State → Prop := fun E st t =>
  (∃ (x : Nat) (M' : zMem), E = zXn x ∧ Q (.inr x) M' ∧ zwf M' ∧ va_P (gD G) vwCl (zW G M') t.heap ∧ zF M' ≠ 0) ∧ va_F (zA G) st t
/-- a contract of a method that returns -/
def zCm (l : Launch) (G : zG) (y : zMD) (fr lo mc ms : Nat) (as : List Value) (M : zMem) (Q : zOut → zMem → Prop) : Prop :=
  Met l (yN y) (zws y) (zrm fr lo mc ms) (zPc G as M) (zQr G M mc Q) mc ms (zA G)
/-- .. that has a table of handlers -/
def zCh (l : Launch) (G : zG) (y : zMD) (fr lo mc ms : Nat) (as : List Value) (M : zMem) (Q : zOut → zMem → Prop) : Prop :=
  Met l (yN y) (zwsH y) (zrm fr lo mc ms) (zPc G as M) (zQr G M mc Q) mc ms (zA G)
/-- .. of a method that returns or throws -/
def zCx2 (l : Launch) (G : zG) (y : zMD) (fr lo mc ms : Nat) (as : List Value) (M : zMem) (Q : zOut → zMem → Prop) : Prop :=
  vx_Met l (yN y) (zws y) (zrm fr lo mc ms) (zPc G as M) (zQr G M mc Q) (zXc G Q) mc ms (zA G)
theorem zPc_blind {G : zG} {as : List Value} {M : zMem} : FrameBlind (zPc G as M) := by
  intro a U g mk h
  obtain ⟨h1, h2, h3, h4, h5⟩ := h
  exact ⟨h1, h2.same rfl, h3, h4, h5⟩
theorem zGW_good : ∀ w ∈ zGW, w ∈ zGW ∧ ((w.onTables && w.keeps) = true ∨ ∃ ty, w = .arrayClass ty) := fun w h => ⟨h, (zGW_in h).2⟩
/-- the locals at a method's entry -/
def zea : List Value → List (Option Value)
  | [] => []
  | .long x :: t => some (.long x) :: none :: zea t
  | .double x :: t => some (.double x) :: none :: zea t
  | v :: t => some v :: zea t
def zen (n : Nat) (as : List Value) : List (Option Value) := zea as ++ List.replicate (n - (zea as).length) none
theorem zea_args (G : zG) : ∀ (as : List Value) (i : Nat), lv_args i (as.map (zv G)) = zlc i ((zea as).map (Option.map (zv G)))
  | [], i => rfl
  | .long x :: t, i => by
    show (i, _) :: lv_args (i + 2) _ = (i, _) :: zlc (i + 1 + 1) _
    rw [zea_args G t (i + 2)]
  | .double x :: t, i => by
    show (i, _) :: lv_args (i + 2) _ = (i, _) :: zlc (i + 1 + 1) _
    rw [zea_args G t (i + 2)]
  | .int x :: t, i => by
    show (i, _) :: lv_args (i + 1) _ = (i, _) :: zlc (i + 1) _
    rw [zea_args G t (i + 1)]
  | .float x :: t, i => by
    show (i, _) :: lv_args (i + 1) _ = (i, _) :: zlc (i + 1) _
    rw [zea_args G t (i + 1)]
  | .ref x :: t, i => by
    show (i, _) :: lv_args (i + 1) _ = (i, _) :: zlc (i + 1) _
    rw [zea_args G t (i + 1)]
  | .null :: t, i => by
    show (i, _) :: lv_args (i + 1) _ = (i, _) :: zlc (i + 1) _
    rw [zea_args G t (i + 1)]
  | .retAddr x :: t, i => by
    show (i, _) :: lv_args (i + 1) _ = (i, _) :: zlc (i + 1) _
    rw [zea_args G t (i + 1)]
theorem zlc_app (a : List (Option Value)) : ∀ (i n : Nat), zlc i (a ++ List.replicate n none) = zlc i a := by
  induction a with
  | nil =>
    intro i n
    induction n generalizing i with
    | zero => rfl
    | succ n ih => rw [List.nil_append, List.replicate_succ, zlc]; exact ih (i + 1)
  | cons x t ih =>
    intro i n
    cases x with
    | none => rw [List.cons_append, zlc, zlc]; exact ih (i + 1) n
    | some v => rw [List.cons_append, zlc, zlc, ih (i + 1) n]
theorem zll_en (G : zG) (n : Nat) (as : List Value) : zll G (zen n as) = lv_args 0 (as.map (zv G)) := by
  rw [zea_args]
  unfold zll zen
  rw [List.map_append, List.map_replicate]
  exact zlc_app _ _ _
theorem zsl_len (G : zG) : ∀ as : List Value, (lg_sl (as.map (zv G))).length = (zea as).length
  | [] => rfl
  | .long x :: t => by show (_ ++ lg_sl (t.map (zv G))).length = _; rw [List.length_append, zsl_len G t]; show 2 + _ = _ + 1 + 1; omega
  | .double x :: t => by show (_ ++ lg_sl (t.map (zv G))).length = _; rw [List.length_append, zsl_len G t]; show 2 + _ = _ + 1 + 1; omega
  | .int x :: t => by show (_ ++ lg_sl (t.map (zv G))).length = _; rw [List.length_append, zsl_len G t]; show 1 + _ = _ + 1; omega
  | .float x :: t => by show (_ ++ lg_sl (t.map (zv G))).length = _; rw [List.length_append, zsl_len G t]; show 1 + _ = _ + 1; omega
  | .ref x :: t => by show (_ ++ lg_sl (t.map (zv G))).length = _; rw [List.length_append, zsl_len G t]; show 1 + _ = _ + 1; omega
  | .null :: t => by show (_ ++ lg_sl (t.map (zv G))).length = _; rw [List.length_append, zsl_len G t]; show 1 + _ = _ + 1; omega
  | .retAddr x :: t => by show (_ ++ lg_sl (t.map (zv G))).length = _; rw [List.length_append, zsl_len G t]; show 1 + _ = _ + 1; omega
section ZC
variable {l : Launch} {G : zG} {y : zMD} {fr lo mc ms : Nat} {as : List Value} {M : zMem} {Q : zOut → zMem → Prop} {ls0 : List (Option Value)}
theorem zret_row {p : Program} {e : Env} {R : Room} {s : State} {m : MethodId} {args : Array Value} {below : List Frame} {meth : Method} {c : Code} {H : Heap} {locs : List Loc} {pc : Nat} {la : Array Slot} {v : Option Value} {M' : zMem}
    (F : zFix l G y fr lo p R s m args meth c) (hM : ∀ v M', Q (.inl v) M' → zF M' = 0 → zF M = 0 ∧ zT M + mc ≤ zT M') (hq : Q (.inl v) M') (hW : zWd G M' s H locs mc) (hz : zrets y pc v) :
    W p l e R s m args below meth c H locs mc ms (MQ below (zQr G M mc Q) args s mc ms (zA G)) (F0 m pc la (v.toList.map (zv G))) := by
  have hq0 : ∀ t : State, t.heap = H → zQr G M mc Q args s (.returned (v.map (zv G))) t := fun t ht => ⟨⟨v, M', rfl, hq, hW.1, by rw [ht]; exact hW.2.1, hM v M' hq⟩, hW.2.2.1.F ht⟩
  have hlocks := F.2.2.2.2.2.1
  have hr := F.2.2.2.2.2.2.1
  cases v with
  | none => exact W.vret F.1 F.2.1 (hr.trans hz.2) (fun t ht _ => hq0 t ht) (fun q h => hW.2.2.1.2.2 q h) hz.1 hlocks
  | some v =>
    cases v with
    | int x =>
      obtain ⟨h1, ty, h2, h3⟩ := hz
      exact W.zret F.1 F.2.1 (hr.trans h2) h3 (fun t ht _ => hq0 t ht) (fun q h => hW.2.2.1.2.2 q h) h1 hlocks
    | long x => exact W.lret F.1 F.2.1 (hr.trans hz.2) (fun t ht _ => hq0 t ht) (fun q h => hW.2.2.1.2.2 q h) hz.1 hlocks
    | float x => exact W.fret F.1 F.2.1 (hr.trans hz.2) (fun t ht _ => hq0 t ht) (fun q h => hW.2.2.1.2.2 q h) hz.1 hlocks
    | double x => exact W.dret F.1 F.2.1 (hr.trans hz.2) (fun t ht _ => hq0 t ht) (fun q h => hW.2.2.1.2.2 q h) hz.1 hlocks
    | null => exact hz.elim
    | ref x => exact hz.elim
    | retAddr x => exact hz.elim
theorem zWd.widen {s : State} {H : Heap} {locs : List Loc} {cells cells' : Nat} {M' : zMem} (h : zWd G M' s H locs cells) (h2 : zF M' = 0 → s.heap.size + cells' ≤ gB G + zT M') : zWd G M' s H locs cells' := ⟨h.1, h.2.1, h.2.2.1, h2⟩
theorem zWd.th {s : State} {H : Heap} {locs : List Loc} {cells cells' : Nat} {M' : zMem} (h : zWd G M' s H locs cells) : zWd G (zth M') s H locs cells' := ⟨h.1, h.2.1, h.2.2.1, fun h => by cases h⟩
/-- the contract out of the walk from the entry: a method without handlers, that returns or throws -/
theorem zCx2.of (hpn : plainName (yN y).cls = true) (hH : yH y = []) (hl : l.stackTraces = false) (hen : zen (yL y) as = ls0) (hle : (zea as).length ≤ yL y)
    (hM : ∀ v M', Q (.inl v) M' → zF M' = 0 → zF M = 0 ∧ zT M + mc ≤ zT M') (hMx : ∀ x M', Q (.inr x) M' → zF M' ≠ 0)
    (h : zS l G y fr lo mc ms 0 ls0 [] M Q) : zCx2 l G y fr lo mc ms as M Q := by
  refine vx_ofW (cc := yC y) (maxL := yL y) (ret := yR y) hpn rfl ?_
  intro p e s m args below meth c s₁ B hml ht hv
  obtain ⟨rfl, hC, hwf, hP, hcnt⟩ := hv
  have hts0 := atoms_spec (ws := zws y) B.pre
  have hts : ∀ w ∈ zGW, w.before ((as.map (zv G)).toArray) s = true := fun w hw => hts0 w (List.mem_cons_of_mem _ hw)
  have htab : c.exceptionTable.toList = tableOf (yH y) := by
    rw [hH]
    cases hc : c.exceptionTable.toList with
    | nil => rfl
    | cons x t => exact (ht x (by rw [hc]; exact List.mem_cons_self)).elim
  have F : zFix l G y fr lo p (headSpec (zws y) (zrm fr lo mc ms)).room s m ((as.map (zv G)).toArray) meth c :=
    ⟨B.exec, B.bytes, hml, findClass_of_methodNamed B.named, hts, B.notSynchronized, B.returns, (name_of_methodNamed B.named B.method).1, hl, Nat.le_refl fr, Nat.le_refl lo, htab, hC⟩
  rw [lg_entry_eq]
  have hlv := lv_entry (as.map (zv G)) (n := yL y) (by rw [zsl_len]; exact hle)
  generalize (lg_sl (as.map (zv G)) ++ List.replicate (yL y - (lg_sl (as.map (zv G))).length) Slot.unset).toArray = la at hlv ⊢
  have hl0 : lv_has la (yL y) (zll G ls0) := by rw [← hen, zll_en]; exact hlv
  refine h p e _ s m _ below meth c s.heap [] 0 0 _ la F (Nat.le_of_eq (Nat.zero_add mc)) (Nat.le_of_eq (Nat.zero_add ms)) ⟨hwf, hP, va_S.rf, fun hz => by rw [Nat.add_zero]; exact hcnt hz⟩ hl0 ⟨?_, ?_, ?_⟩
  · intro v M' hq H locs cells slots pc la hc hs hW hz
    refine W.widen (k := mc) (n := ms) hc hs (vx_ret ?_)
    refine zret_row F hM hq (hW.widen fun h0 => ?_) hz
    have h1 := hM v M' hq h0
    have h2 := hcnt h1.1
    omega
  · intro x M' hq H locs cells slots pc la st q ce hc hs hW hce hcv hcl hH'
    refine vx_out (fun z hz => (ht z hz).elim) F.2.2.2.2.2.1 hce hcv hcl (fun t ht hA => ⟨⟨x, M', rfl, hq, hW.1, by rw [ht]; exact hW.2.1, hMx x M' hq⟩, hW.2.2.1.F ht⟩) (fun z hz => hW.2.2.1.2.2 z hz) hc hs
  · intro x M' hq H locs cells slots pc la st hc hs hW hla hth
    obtain ⟨ik, ic, d0, d3, d4, d7, w1, w2, -, r1, r2, hx3, hxw⟩ := hth
    have hfit : Bundle.fit (zXn x) = true := by
      rcases (show x = 0 ∨ x = 1 ∨ x = 2 by omega) with rfl | rfl | rfl <;> decide
    have hcat : ((st.map (zv G)).map fun v => v.category) = st.map fun v => v.category := by rw [List.map_map]; exact List.map_congr_left fun v _ => zv_cat G v
    have hwd : ∀ w ∈ vx_at0 (yN y).cls ic (zXn x) zXs, w.before ((as.map (zv G)).toArray) s = true := fun w hw => by
      rcases hxw.2 w hw with h | ⟨h, -⟩
      · exact hts w h
      · have hk := (List.mem_filter.mp h).2
        have hn := hC.2.1 w h
        cases w with
        | methodLinkNest _ _ _ _ => exact va_Nw.use rfl hn
        | castable _ _ => exact va_Nw.use rfl hn
        | declares _ => exact va_Nw.use rfl hn
        | arrayOver ty =>
          cases ty with
          | object C => exact va_AO.use hn
          | _ => cases hk
        | _ => cases hk
    have hot : ∀ w : Cond, w ∈ zGW ∨ (w ∈ zNW ∧ w.onTables = true) → vx_ot w = true := fun w hw => by
      rcases hw with h | ⟨-, h⟩
      · unfold vx_ot
        rw [(List.mem_filter.mp h).2, Bool.or_true]
      · unfold vx_ot
        rw [h, Bool.true_or]
    have hini := hxw.1
    refine vx_throw0 (A := zA G) (names := zXs) (cls := zXn x) F.1 F.2.1 hl F.2.2.2.1 hfit (by decide) (hts _ w1) (hts _ hini) hwd (fun w hw => ?_) hC.2.2.2.2.2.2.2.1 hC.2.2.2.2.2.2.2.2.1 hW.2.2.1 (hla.trans F.2.2.1.symm) d0 d3 d4 d7 (fun z hz => (ht z hz).elim) (by show 2 + 3 < fr; omega) (by show _ + (13 * 3 + 42) ≤ lo; rw [hcat]; omega) hc hs F.2.2.2.2.2.1
      (fun t hA hz hsame => ⟨⟨x, _, rfl, hq, hW.1, hW.2.1.kept (fun k q hk => hsame q.1 ((hW.2.1 k q hk).lt)), fun h => by cases h⟩, ⟨Nat.le_trans hW.2.2.1.1 hz, fun q q1 q2 => (hsame q (Nat.lt_of_lt_of_le q1 hW.2.2.1.1)).trans (hW.2.2.1.2.1 q q1 q2)⟩⟩) (fun z hz => hW.2.2.1.2.2 z hz) hc hs
    rcases List.mem_cons.mp hw with rfl | hw
    · exact hot _ (Or.inl w1)
    · rcases List.mem_cons.mp hw with rfl | hw
      · exact hot _ (Or.inl hini)
      · exact hot _ (hxw.2 w hw)
/-- a contract that throws nothing is one that returns -/
theorem zCm.of2 (h : zCx2 l G y fr lo mc ms as M Q) (hn : ∀ x M', ¬ Q (.inr x) M') : zCm l G y fr lo mc ms as M Q := by
  unfold zCm Met
  unfold zCx2 vx_Met at h
  refine h.mono (fun _ _ h => h) (fun _ _ _ _ _ h => h) (fun a s o t _ hq => ?_)
  rcases hq with hq | ⟨q, -, E, ce, L, ⟨⟨x, M', -, h2, -⟩, -⟩, -⟩
  · exact hq
  · exact absurd h2 (hn x M')
theorem zCm.of (hpn : plainName (yN y).cls = true) (hH : yH y = []) (hl : l.stackTraces = false) (hen : zen (yL y) as = ls0) (hle : (zea as).length ≤ yL y)
    (hM : ∀ v M', Q (.inl v) M' → zF M' = 0 → zF M = 0 ∧ zT M + mc ≤ zT M') (hn : ∀ x M', ¬ Q (.inr x) M')
    (h : zS l G y fr lo mc ms 0 ls0 [] M Q) : zCm l G y fr lo mc ms as M Q :=
  zCm.of2 (zCx2.of hpn hH hl hen hle hM (fun x M' q => absurd q (hn x M')) h) hn
theorem zCh.of (hpn : plainName (yN y).cls = true) (hl : l.stackTraces = false) (hen : zen (yL y) as = ls0) (hle : (zea as).length ≤ yL y)
    (hM : ∀ v M', Q (.inl v) M' → zF M' = 0 → zF M = 0 ∧ zT M + mc ≤ zT M') (hn : ∀ x M', ¬ Q (.inr x) M')
    (h : zS l G y fr lo mc ms 0 ls0 [] M Q) : zCh l G y fr lo mc ms as M Q := by
  have key : vx_Met l (yN y) (zwsH y) (zrm fr lo mc ms) (zPc G as M) (zQr G M mc Q) (fun _ _ _ => False) mc ms (zA G) := by
    refine vx_ofWH (cc := yC y) (maxL := yL y) (ret := yR y) (hh := yH y) hpn rfl ?_
    intro p e s m args below meth c s₁ B hml hv
    obtain ⟨rfl, hC, hwf, hP, hcnt⟩ := hv
    have hts0 := atoms_spec (ws := zwsH y) B.pre
    have hts : ∀ w ∈ zGW, w.before ((as.map (zv G)).toArray) s = true := fun w hw => hts0 w (List.mem_cons_of_mem _ hw)
    have htab : c.exceptionTable.toList = tableOf (yH y) := vx_table (x := yN y) B (hts0 _ List.mem_cons_self)
    have F : zFix l G y fr lo p (headSpec (zwsH y) (zrm fr lo mc ms)).room s m ((as.map (zv G)).toArray) meth c :=
      ⟨B.exec, B.bytes, hml, findClass_of_methodNamed B.named, hts, B.notSynchronized, B.returns, (name_of_methodNamed B.named B.method).1, hl, Nat.le_refl fr, Nat.le_refl lo, htab, hC⟩
    rw [lg_entry_eq]
    have hlv := lv_entry (as.map (zv G)) (n := yL y) (by rw [zsl_len]; exact hle)
    generalize (lg_sl (as.map (zv G)) ++ List.replicate (yL y - (lg_sl (as.map (zv G))).length) Slot.unset).toArray = la at hlv ⊢
    have hl0 : lv_has la (yL y) (zll G ls0) := by rw [← hen, zll_en]; exact hlv
    refine h p e _ s m _ below meth c s.heap [] 0 0 _ la F (Nat.le_of_eq (Nat.zero_add mc)) (Nat.le_of_eq (Nat.zero_add ms)) ⟨hwf, hP, va_S.rf, fun hz => by rw [Nat.add_zero]; exact hcnt hz⟩ hl0 ⟨?_, fun x M' q => absurd q (hn x M'), fun x M' q => absurd q (hn x _)⟩
    intro v M' hq H locs cells slots pc la hc hs hW hz
    refine W.widen (k := mc) (n := ms) hc hs (vx_ret ?_)
    refine zret_row F hM hq (hW.widen fun h0 => ?_) hz
    have h1 := hM v M' hq h0
    have h2 := hcnt h1.1
    omega
  unfold zCh Met
  unfold vx_Met at key
  refine key.mono (fun _ _ h => h) (fun _ _ _ _ _ h => h) (fun a s o t _ hq => ?_)
  rcases hq with hq | ⟨q, -, E, ce, L, hx, -⟩
  · exact hq
  · exact hx.elim
end ZC

/-! ===== methods of classes that hold natives too (Math, String) ===== -/
theorem zofF {l : Launch} {y : MethodName} {ws ws' : List Cond} {rm : Room} {Pc : Array Value → State → Prop} {Qc : Array Value → State → Outcome → State → Prop} {XC : String → State → State → Prop} {mc ms : Nat} {free : Addr → Prop} {cc : ByteArray} {maxL : Nat} {ret : Option FieldType}
    (hy : plainFor y = true) (hw : ws = Cond.code y cc maxL ret :: ws')
    (body : ∀ p e s m args below meth c s₁, BodyLoose p l y (headSpec ws rm) cc maxL ret e s m args below meth c s₁ → c.maxLocals = maxL → (∀ x ∈ c.exceptionTable.toList, False) → Pc args s →
      W p l e (headSpec ws rm).room s m args below meth c s.heap [] 0 0 (vx_MQ below Qc XC args s mc ms free) (entryFrame m args maxL)) : vx_Met l y ws rm Pc Qc XC mc ms free := by
  refine MetFree.of_bodySF (code := cc) (maxLocals := maxL) (ret := ret) hy ?_ ?_
  · intro args s m h hn
    obtain ⟨meth, c, h1, h2, h3, h4, h5, h6, -, -⟩ := Cond.code_spec hn (atoms_spec (ws := ws) h _ (by rw [hw]; exact List.mem_cons_self))
    exact ⟨meth, c, h1, h2, h3, h4, h5, h6⟩
  · intro p e s m args below meth c s₁ B hml hP _
    have hh0 : s₁.heap = s.heap := by rw [B.state]; rfl
    have ht : ∀ x ∈ c.exceptionTable.toList, False := by
      obtain ⟨meth9, c9, h1, h2, -, -, -, -, h7, -⟩ := Cond.code_spec B.named (atoms_spec (ws := ws) B.pre _ (by rw [hw]; exact List.mem_cons_self))
      cases Option.some.inj (h1.symm.trans B.method)
      cases Option.some.inj (h2.symm.trans (Stand.of_body B).code)
      intro x hx
      rw [Array.isEmpty_iff.mp h7] at hx
      cases hx
    obtain ⟨t, a1, o, b1, b2, b3⟩ := body p e s m args below meth c s₁ B hml ht hP s₁ hh0 (Stand.of_body B)
    exact ⟨t, o, a1, b1, b2, b3⟩
/-- a deterministic contract of such a method, that makes nothing -/
theorem zCd.ofF {l : Launch} {G : zG} {y : zMD} {fr lo : Nat} {as : List Value} {M : zMem} {ls0 : List (Option Value)} {v : Option Value} {M1 : zMem} (hpn : plainFor (yN y) = true) (hH : yH y = []) (hl : l.stackTraces = false) (hen : zen (yL y) as = ls0) (hle : (zea as).length ≤ yL y) (hM : zsh M M1)
    (h : zS l G y fr lo 0 0 0 ls0 [] M (zD v M1)) : zCm l G y fr lo 0 0 as M (zD v M1) := by
  have hM0 : ∀ v' M', zD v M1 (.inl v') M' → zF M' = 0 → zF M = 0 ∧ zT M + 0 ≤ zT M' := fun v' M' q h0 => by
    obtain ⟨-, rfl⟩ := q
    exact ⟨by rw [← zsh_F hM]; exact h0, by rw [zsh_T hM]; exact Nat.le_refl _⟩
  have hn : ∀ x M', ¬ zD v M1 (.inr x) M' := fun x M' q => by cases q.1
  refine zCm.of2 ?_ hn
  refine zofF (cc := yC y) (maxL := yL y) (ret := yR y) hpn rfl ?_
  intro p e s m args below meth c s₁ B hml ht hv
  obtain ⟨rfl, hC, hwf, hP, hcnt⟩ := hv
  have hts0 := atoms_spec (ws := zws y) B.pre
  have hts : ∀ w ∈ zGW, w.before ((as.map (zv G)).toArray) s = true := fun w hw => hts0 w (List.mem_cons_of_mem _ hw)
  have htab : c.exceptionTable.toList = tableOf (yH y) := by
    rw [hH]
    cases hc : c.exceptionTable.toList with
    | nil => rfl
    | cons x t => exact (ht x (by rw [hc]; exact List.mem_cons_self)).elim
  have F : zFix l G y fr lo p (headSpec (zws y) (zrm fr lo 0 0)).room s m ((as.map (zv G)).toArray) meth c :=
    ⟨B.exec, B.bytes, hml, findClass_of_methodNamed B.named, hts, B.notSynchronized, B.returns, (name_of_methodNamed B.named B.method).1, hl, Nat.le_refl fr, Nat.le_refl lo, htab, hC⟩
  rw [lg_entry_eq]
  have hlv := lv_entry (as.map (zv G)) (n := yL y) (by rw [zsl_len]; exact hle)
  generalize (lg_sl (as.map (zv G)) ++ List.replicate (yL y - (lg_sl (as.map (zv G))).length) Slot.unset).toArray = la at hlv ⊢
  have hl0 : lv_has la (yL y) (zll G ls0) := by rw [← hen, zll_en]; exact hlv
  refine h p e _ s m _ below meth c s.heap [] 0 0 _ la F (Nat.le_refl 0) (Nat.le_refl 0) ⟨hwf, hP, va_S.rf, fun hz => by rw [Nat.add_zero]; exact hcnt hz⟩ hl0 ⟨?_, fun x M' q => absurd q (hn x M'), fun x M' q => absurd q (hn x _)⟩
  intro v M' hq H locs cells slots pc la hc hs hW hz
  refine W.widen (k := 0) (n := 0) hc hs (vx_ret ?_)
  refine zret_row F hM0 hq (hW.widen fun h0 => ?_) hz
  have h1 := hM0 v M' hq h0
  have h2 := hcnt h1.1
  omega

/-! ===== rules as the walks use them: places as numbers, calls that make nothing ===== -/
section ZH
variable {l : Launch} {G : zG} {y z : zMD} {fr lo fr1 lo1 bc bs pc i n : Nat} {ls : List (Option Value)} {st : List Value} {as : List Value} {M : zMem} {Q Q1 : zOut → zMem → Prop}
theorem s_topi {a b : Int32} (h : a = b) (k : zS l G y fr lo bc bs pc ls (.int b :: st) M Q) : zS l G y fr lo bc bs pc ls (.int a :: st) M Q := by rw [h]; exact k
theorem s_topl {a b : Int64} (h : a = b) (k : zS l G y fr lo bc bs pc ls (.long b :: st) M Q) : zS l G y fr lo bc bs pc ls (.long a :: st) M Q := by rw [h]; exact k
theorem s_ls {ls' : List (Option Value)} (h : ls = ls') (k : zS l G y fr lo bc bs pc ls' st M Q) : zS l G y fr lo bc bs pc ls st M Q := by rw [h]; exact k
theorem s_mem {M' : zMem} (h : M = M') (k : zS l G y fr lo bc bs pc ls st M' Q) : zS l G y fr lo bc bs pc ls st M Q := by rw [h]; exact k
theorem nI_in2 {j n : Nat} (h : j < n) (hn : n < 100000) : vp_in (nI j) n := vp_in_nI h (by omega)
theorem nI_cl {j n : Nat} (h : j < n) (hn : n < 100000) : (nI j).toNatClampNeg = j := nI_clamp (by omega)
theorem s_ialoadN {a N j : Nat} (hd : decode (yC y) pc = .ok (.iaload, 1)) (hK : zK M a = 11) (hN : zN M a = N) (hj : j < N) (hn : N < 100000)
    (kk : zS l G y fr lo bc bs (pc + 1) ls (.int (zI M a j) :: st) M Q) : zS l G y fr lo bc bs pc ls (.int (nI j) :: .ref a :: st) M Q :=
  s_iaload hd hK (by rw [hN]; exact nI_in2 hj hn) (by rw [nI_cl hj hn]; exact kk)
theorem s_laloadN {a N j : Nat} (hd : decode (yC y) pc = .ok (.laload, 1)) (hK : zK M a = 12) (hN : zN M a = N) (hj : j < N) (hn : N < 100000)
    (kk : zS l G y fr lo bc bs (pc + 1) ls (.long (zJ M a j) :: st) M Q) : zS l G y fr lo bc bs pc ls (.int (nI j) :: .ref a :: st) M Q :=
  s_laload hd hK (by rw [hN]; exact nI_in2 hj hn) (by rw [nI_cl hj hn]; exact kk)
theorem s_baloadN {a N j : Nat} (hd : decode (yC y) pc = .ok (.baload, 1)) (hK : zK M a = 13) (hN : zN M a = N) (hj : j < N) (hn : N < 100000)
    (kk : zS l G y fr lo bc bs (pc + 1) ls (.int (zI M a j) :: st) M Q) : zS l G y fr lo bc bs pc ls (.int (nI j) :: .ref a :: st) M Q :=
  s_baload hd hK (by rw [hN]; exact nI_in2 hj hn) (by rw [nI_cl hj hn]; exact kk)
theorem s_aaloadN {a N j q r : Nat} (hd : decode (yC y) pc = .ok (.aaload, 1)) (hK : zK M a = 14 + q) (hq : q < 3) (hN : zN M a = N) (hj : j < N) (hn : N < 100000) (hr : zR M a j = some r)
    (kk : zS l G y fr lo bc bs (pc + 1) ls (.ref r :: st) M Q) : zS l G y fr lo bc bs pc ls (.int (nI j) :: .ref a :: st) M Q :=
  s_aaload hd hq hK (by rw [hN]; exact nI_in2 hj hn) (by rw [nI_cl hj hn]; exact hr) kk
theorem s_iastoreN {a N j : Nat} {x : Int32} (hd : decode (yC y) pc = .ok (.iastore, 1)) (hK : zK M a = 11) (hN : zN M a = N) (hj : j < N) (hn : N < 100000)
    (kk : zS l G y fr lo bc bs (pc + 1) ls st (zsI M a j x) Q) : zS l G y fr lo bc bs pc ls (.int x :: .int (nI j) :: .ref a :: st) M Q :=
  s_iastore hd hK (by rw [hN]; exact nI_in2 hj hn) (by rw [nI_cl hj hn]; exact kk)
theorem s_lastoreN {a N j : Nat} {x : Int64} (hd : decode (yC y) pc = .ok (.lastore, 1)) (hK : zK M a = 12) (hN : zN M a = N) (hj : j < N) (hn : N < 100000)
    (kk : zS l G y fr lo bc bs (pc + 1) ls st (zsJ M a j x) Q) : zS l G y fr lo bc bs pc ls (.long x :: .int (nI j) :: .ref a :: st) M Q :=
  s_lastore hd hK (by rw [hN]; exact nI_in2 hj hn) (by rw [nI_cl hj hn]; exact kk)
theorem s_bastoreN {a N j : Nat} {x : Int32} (hd : decode (yC y) pc = .ok (.bastore, 1)) (hK : zK M a = 13) (hN : zN M a = N) (hj : j < N) (hn : N < 100000) (hx : vp_nar .boolean x = x)
    (kk : zS l G y fr lo bc bs (pc + 1) ls st (zsI M a j x) Q) : zS l G y fr lo bc bs pc ls (.int x :: .int (nI j) :: .ref a :: st) M Q :=
  s_bastore hd hK (by rw [hN]; exact nI_in2 hj hn) hx (by rw [nI_cl hj hn]; exact kk)
theorem s_aastoreN {a N j q v ci : Nat} (hd : decode (yC y) pc = .ok (.aastore, 1)) (hK : zK M a = 14 + q) (hv : zK M v = ci + 1) (hci : ci < 10) (hcl : vwCl[ci]? = some (zCl ci)) (hty : ∀ G : zG, (zty G)[3 + q]? = some (gC G (3 + q), .object (zCl ci).1)) (hN : zN M a = N) (hj : j < N) (hn : N < 100000)
    (kk : zS l G y fr lo bc bs (pc + 1) ls st (zsR M a j (some v)) Q) : zS l G y fr lo bc bs pc ls (.ref v :: .int (nI j) :: .ref a :: st) M Q :=
  s_aastore hd hK hv hci hcl hty (by rw [hN]; exact nI_in2 hj hn) (by rw [nI_cl hj hn]; exact kk)
theorem s_callV0 {ci a : Nat} {v : Option Value} {M1 : zMem} (as : List Value) (hd : decode (yC y) pc = .ok (.invokevirtual i, 3)) (hw : zcv (yN y).cls i z n) (hK : zK M a = ci + 1) (hci : ci < 10) (hcl : vwCl[ci]? = some (zCl ci)) (hcn : (zCl ci).1 = (yN z).cls) (hn : as.length = n) (hst : (st.map fun v => v.category).sum ≤ 8) (hrm : fr1 + 1 ≤ fr ∧ 8 + (yL z + 11) + lo1 ≤ lo)
    (hM : zCm l G z fr1 lo1 0 0 (.ref a :: as) M (zD v M1)) (kk : zS l G y fr lo bc bs (pc + 3) ls (v.toList ++ st) M1 Q) :
    zS l G y fr lo bc bs pc ls (as.reverse ++ .ref a :: st) M Q := by
  have h := s_callV (mc := 0) (ms := 0) (bc := bc) (bs := bs) (Q := Q) (ls := ls) hd hw hK hci hcl hcn hn hst hrm hM (fun v' M' hq => by obtain ⟨h1, rfl⟩ := hq; cases h1; exact kk)
  rw [Nat.zero_add, Nat.zero_add] at h
  exact h
theorem s_callV1 {ci a : Nat} (as : List Value) (hd : decode (yC y) pc = .ok (.invokevirtual i, 3)) (hw : zcv (yN y).cls i z n) (hK : zK M a = ci + 1) (hci : ci < 10) (hcl : vwCl[ci]? = some (zCl ci)) (hcn : (zCl ci).1 = (yN z).cls) (hn : as.length = n) (hst : (st.map fun v => v.category).sum ≤ 8) (hrm : fr1 + 1 ≤ fr ∧ 8 + (yL z + 11) + lo1 ≤ lo)
    (hM : zCm l G z fr1 lo1 0 0 (.ref a :: as) M Q1) (kk : ∀ v M1, Q1 (.inl v) M1 → zS l G y fr lo bc bs (pc + 3) ls (v.toList ++ st) M1 Q) :
    zS l G y fr lo bc bs pc ls (as.reverse ++ .ref a :: st) M Q := by
  have h := s_callV (mc := 0) (ms := 0) (bc := bc) (bs := bs) (Q := Q) (ls := ls) hd hw hK hci hcl hcn hn hst hrm hM kk
  rw [Nat.zero_add, Nat.zero_add] at h
  exact h
theorem s_callS0 {v : Option Value} {M1 : zMem} (as : List Value) (hd : decode (yC y) pc = .ok (.invokestatic i, 3)) (hw : zcs (yN y).cls i z n) (hn : as.length = n) (hst : (st.map fun v => v.category).sum ≤ 8) (hrm : fr1 + 1 ≤ fr ∧ 8 + (yL z + 11) + lo1 ≤ lo)
    (hM : zCm l G z fr1 lo1 0 0 as M (zD v M1)) (kk : zS l G y fr lo bc bs (pc + 3) ls (v.toList ++ st) M1 Q) :
    zS l G y fr lo bc bs pc ls (as.reverse ++ st) M Q := by
  have h := s_callS (mc := 0) (ms := 0) (bc := bc) (bs := bs) (Q := Q) (ls := ls) hd hw hn hst hrm hM (fun v' M' hq => by obtain ⟨h1, rfl⟩ := hq; cases h1; exact kk)
  rw [Nat.zero_add, Nat.zero_add] at h
  exact h
theorem s_callSN0 {v : Option Value} {M1 : zMem} {host : String} (as : List Value) (hd : decode (yC y) pc = .ok (.invokestatic i, 3)) (hw : zcsN (yN y).cls i z host n) (hn : as.length = n) (hst : (st.map fun v => v.category).sum ≤ 8) (hrm : fr1 + 1 ≤ fr ∧ 8 + (yL z + 11) + lo1 ≤ lo)
    (hM : zCm l G z fr1 lo1 0 0 as M (zD v M1)) (kk : zS l G y fr lo bc bs (pc + 3) ls (v.toList ++ st) M1 Q) :
    zS l G y fr lo bc bs pc ls (as.reverse ++ st) M Q := by
  have h := s_callSN (mc := 0) (ms := 0) (bc := bc) (bs := bs) (Q := Q) (ls := ls) hd hw hn hst hrm hM (fun v' M' hq => by obtain ⟨h1, rfl⟩ := hq; cases h1; exact kk)
  rw [Nat.zero_add, Nat.zero_add] at h
  exact h
theorem s_callS1 (as : List Value) (hd : decode (yC y) pc = .ok (.invokestatic i, 3)) (hw : zcs (yN y).cls i z n) (hn : as.length = n) (hst : (st.map fun v => v.category).sum ≤ 8) (hrm : fr1 + 1 ≤ fr ∧ 8 + (yL z + 11) + lo1 ≤ lo)
    (hM : zCm l G z fr1 lo1 0 0 as M Q1) (kk : ∀ v M1, Q1 (.inl v) M1 → zS l G y fr lo bc bs (pc + 3) ls (v.toList ++ st) M1 Q) :
    zS l G y fr lo bc bs pc ls (as.reverse ++ st) M Q := by
  have h := s_callS (mc := 0) (ms := 0) (bc := bc) (bs := bs) (Q := Q) (ls := ls) hd hw hn hst hrm hM kk
  rw [Nat.zero_add, Nat.zero_add] at h
  exact h
/-- contracts of methods that make nothing -/
theorem zCm.of0 {ls0 : List (Option Value)} (hpn : plainName (yN y).cls = true) (hH : yH y = []) (hl : l.stackTraces = false) (hen : zen (yL y) as = ls0) (hle : (zea as).length ≤ yL y)
    (hM : ∀ v M', Q (.inl v) M' → zsh M M') (hn : ∀ x M', ¬ Q (.inr x) M')
    (h : zS l G y fr lo 0 0 0 ls0 [] M Q) : zCm l G y fr lo 0 0 as M Q :=
  zCm.of hpn hH hl hen hle (fun v M' q h0 => ⟨by rw [← zsh_F (hM v M' q)]; exact h0, by rw [zsh_T (hM v M' q)]; exact Nat.le_refl _⟩) hn h
theorem zCd.of {ls0 : List (Option Value)} {v : Option Value} {M1 : zMem} (hpn : plainName (yN y).cls = true) (hH : yH y = []) (hl : l.stackTraces = false) (hen : zen (yL y) as = ls0) (hle : (zea as).length ≤ yL y) (hM : zsh M M1)
    (h : zS l G y fr lo 0 0 0 ls0 [] M (zD v M1)) : zCm l G y fr lo 0 0 as M (zD v M1) :=
  zCm.of0 hpn hH hl hen hle (fun v' M' q => by rw [q.2]; exact hM) (fun x M' q => by cases q.1) h
/-- what is asked of the room may grow -/
theorem zS.room {fr' lo' : Nat} (h1 : fr' ≤ fr) (h2 : lo' ≤ lo) (k : zS l G y fr' lo' bc bs pc ls st M Q) : zS l G y fr' lo' bc bs pc ls st M Q := k
end ZH

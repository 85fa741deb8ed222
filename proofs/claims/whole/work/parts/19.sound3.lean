/-! EVERY RUN OF THE SMALL MACHINE IS A RUN OF THE JVM -/
theorem xLMt_lt : ∀ q ∈ xLMt, q.2.1 < 2 := by decide
section XSOUND3
variable {l : Launch} {D : va_G} {z : Nat} {ex : Int → Nat} {aV : Nat → Nat} {cA : Nat → ClassId} {HB : Heap}
theorem mTgt_take {st : List AV} {b : Nat} {v : AV} (h : st[b]? = some v) : (st.take (b + 1)).reverse = v :: (st.take b).reverse ∧ st = (st.take b) ++ v :: st.drop (b + 1) := by
  have hb : b < st.length := (List.getElem?_eq_some_iff.mp h).1
  have e : st[b] = v := (List.getElem?_eq_some_iff.mp h).2
  constructor
  · rw [List.take_succ, h]
    simp
  · rw [← e, List.getElem_cons_drop hb, List.take_append_drop]
theorem xSound (hx2 : ex (-2) < z) (hPr : XPr l D z ex aV cA HB) (f : Nat) : XS l D z ex aV cA HB f := by
  induction f with
  | zero => intro d sc tb rk pc lv st h r hE e; cases e
  | succ f ih =>
    intro d sc tb rk pc lv st h r hE e p e' R s m args below meth c H locs cells slots Q cc nL own ini rt ls C hck h1 h2 hAL hP hS hr1 hr2 hret
    have e : mBody mt vt txt (mRun mt vt txt f) d sc tb rk pc lv st h = some (r, hE) := e
    unfold mBody at e
    cases hat : mAt tb pc with
    | none => rw [hat] at e; cases e
    | some en =>
      obtain ⟨nx, op, a, b, tl⟩ := en
      rw [hat] at e
      simp only at e
      have hce := List.all_eq_true.mp hck _ (lookup_mem hat)
      by_cases h99 : op = 99
      · subst h99
        rw [if_neg (by decide)] at e
        have e1 : mRet 99 rk st = none := rfl
        rw [e1] at e
        cases d with
        | zero => cases e
        | succ d =>
          have e2 : mTgt mt vt 99 a.toNat b.toNat st h = none := rfl
          have e3 : mPri txt 99 a.toNat b.toNat st h = none := rfl
          simp only [e2, e3] at e
          cases e
      · obtain ⟨i, len, hdec, rfl, hln, hrest⟩ : ∃ i len, decode cc pc = .ok (i, len) ∧ nx = pc + len ∧ (xLn i = 0 ∨ len = xLn i) ∧ (if op < 50 then decide (xDec own ini pc i = some (op, a, b, tl)) else xDecC own rk rt i op a b) = true := by
          have h99' : (op == 99) = false := by simp [h99]
          simp only [xChkE, h99', Bool.false_or] at hce
          cases hd : decode cc pc with
          | error x => rw [hd] at hce; cases hce
          | ok v =>
            obtain ⟨i, len⟩ := v
            rw [hd] at hce
            simp only [Bool.and_eq_true, Bool.or_eq_true, beq_iff_eq] at hce
            exact ⟨i, len, rfl, hce.1.1, hce.1.2, hce.2⟩
        by_cases hop : op < 50
        · rw [if_pos hop] at e hrest
          have hd := of_decide_eq_true hrest
          cases hs : mStep sc op a b tl (pc + len) lv st h with
          | none => rw [hs] at e; cases e
          | some q =>
            obtain ⟨pc', lv', st', h'⟩ := q
            rw [hs] at e
            have m1 := mStep_mono hs
            have m2 := mRun_mono _ _ _ _ _ _ _ _ _ _ _ e
            refine xStep C hdec hln hd hs hAL hP hS (by omega) (by omega) fun H' locs' ls' g1 g2 g3 => ?_
            refine ih _ _ _ _ _ _ _ _ _ _ e C hck h1 h2 g3 g1 g2 (by omega) (by omega) fun i pc ls H' locs' k1 k2 k3 k4 => ?_
            have := hret i pc ls H' locs' k1 k2 k3 k4
            rwa [show cells + (mN h' - mN h) + (mN hE - mN h') = cells + (mN hE - mN h) by omega, show slots + (mS h' - mS h) + (mS hE - mS h') = slots + (mS hE - mS h) by omega]
        · rw [if_neg hop] at e hrest
          cases hr : mRet op rk st with
          | some q =>
            rw [hr] at e
            cases e
            obtain ⟨q1, q2, q3⟩ := xDecC_ret hrest hr
            obtain rfl : len = 1 := xLenOf hln (by decide) q2
            rw [q3]
            have := hret i pc ls H locs hdec q1 hP hS
            rwa [Nat.sub_self, Nat.sub_self, Nat.add_zero, Nat.add_zero] at this
          | none =>
            rw [hr] at e
            cases d with
            | zero => cases e
            | succ d =>
              simp only at e
              cases ht : mTgt mt vt op a.toNat b.toNat st h with
              | some q =>
                obtain ⟨y, n⟩ := q
                rw [ht] at e
                simp only at e
                cases hc : mRun mt vt txt f d none (mt y).1 (mt y).2.2.2 0 (mEnt (mt y).2.1 (st.take n).reverse) [] h with
                | none => rw [hc] at e; cases e
                | some q =>
                  obtain ⟨r1, h1'⟩ := q
                  rw [hc] at e
                  simp only at e
                  have m1 := mRun_mono _ _ _ _ _ _ _ _ _ _ _ hc
                  have m2 := mRun_mono _ _ _ _ _ _ _ _ _ _ _ e
                  have fin : ∀ a0, xRun len p l e' R s m args below meth c H locs cells slots (mN h1' - mN h) (mS h1' - mS h) (F0 m pc ls (st.map (xV z ex))) ((st.drop n).map (xV z ex)) (xQc D z ex cA HB r1 h1' a0) (xA z) → W p l e' R s m args below meth c H locs cells slots Q (F0 m pc ls (st.map (xV z ex))) := by
                    intro a0 key
                    refine xUse key hS fun H1 locs1 g1 g2 => ?_
                    have e3 : (r1.map (xV z ex)).toList ++ (st.drop n).map (xV z ex) = (r1.toList ++ st.drop n).map (xV z ex) := by cases r1 <;> simp
                    rw [e3]
                    refine ih _ _ _ _ _ _ _ _ _ _ e C hck h1 h2 hAL g1 g2 (by omega) (by omega) fun i pc ls H' locs' k1 k2 k3 k4 => ?_
                    have := hret i pc ls H' locs' k1 k2 k3 k4
                    rwa [show cells + (mN h1' - mN h) + (mN hE - mN h1') = cells + (mN hE - mN h) by omega, show slots + (mS h1' - mS h) + (mS hE - mS h1') = slots + (mS hE - mS h) by omega]
                  have hsz : ls.size = nL := hAL.1.1
                  unfold mTgt at ht
                  split at ht
                  · split at ht
                    · rename_i hcnd
                      simp only [Option.some.injEq, Prod.mk.injEq] at ht
                      obtain ⟨rfl, rfl⟩ := ht
                      cases i <;> simp [xDecC] at hrest
                      rename_i k
                      obtain rfl : len = 3 := xLenOf hln (by decide) rfl
                      have ok := xLMs_ok _ (lookup_mem hrest)
                      obtain ⟨n', me, hn', -⟩ := id ok
                      have hlen : (st.take (mt a.toNat).2.2.1).reverse.length = (mt a.toNat).2.2.1 := by rw [List.length_reverse, List.length_take]; omega
                      have key := xRunS (e := e') (R := R) (below := below) (cells := cells) (slots := slots) (rest := st.drop (mt a.toNat).2.2.1) C hdec ok hlen (xMet ih hx2 me hc hcnd.2.2) hP hS hsz hcnd.2.1 (by omega) (by omega) (by omega) (by omega)
                      have stm : ((st.take (mt a.toNat).2.2.1).reverse.map (xV z ex)).reverse ++ (st.drop (mt a.toNat).2.2.1).map (xV z ex) = st.map (xV z ex) := by
                        rw [← List.map_reverse, List.reverse_reverse, ← List.map_append, List.take_append_drop]
                      rw [stm] at key
                      exact fin _ key
                    · cases ht
                  · split at ht
                    · rename_i x hx
                      split at ht
                      · rename_i q hq
                        split at ht
                        · rename_i y' hy
                          split at ht
                          · rename_i hcnd
                            simp only [Option.some.injEq, Prod.mk.injEq] at ht
                            obtain ⟨rfl, rfl⟩ := ht
                            obtain ⟨t1, t2⟩ := mTgt_take hx
                            have hqn := (mAd_spec hq).2.2
                            have hv0 : xV z ex (1, x) = .ref (z + q) := by rw [xV_ref, xR_ad hq]; rfl
                            have hbl : b.toNat < st.length := (List.getElem?_eq_some_iff.mp hx).1
                            have hlen : (st.take b.toNat).reverse.length + 1 = (mt y').2.2.1 := by rw [List.length_reverse, List.length_take]; omega
                            have stm : ((st.take b.toNat).reverse.map (xV z ex)).reverse ++ .ref (z + q) :: (st.drop (b.toNat + 1)).map (xV z ex) = st.map (xV z ex) := by
                              conv => rhs; rw [t2]
                              rw [← List.map_reverse, List.reverse_reverse, List.map_append, List.map_cons, hv0]
                            have hmem := lookup_mem hy
                            rw [t1] at hc
                            have hcl := hcnd.2.2
                            rw [t1] at hcl
                            cases i <;> simp [xDecC] at hrest
                            · rename_i k cnt
                              obtain rfl : len = 5 := xLenOf hln (by decide) rfl
                              have ok := xLMf_ok _ (lookup_mem hrest) _ hmem
                              obtain ⟨n', x', me, -⟩ := id ok
                              have key := xRunF (e := e') (R := R) (below := below) (cells := cells) (slots := slots) (rest := st.drop (b.toNat + 1)) C hdec ok hlen hv0 hqn rfl (xMet ih hx2 me hc hcl) hP hS hsz hcnd.2.1 (by omega) (by omega) (by omega) (by omega)
                              rw [stm] at key
                              exact fin _ key
                            · rename_i k
                              obtain rfl : len = 3 := xLenOf hln (by decide) rfl
                              have ok := xLMp_ok _ (lookup_mem hrest) _ hmem
                              obtain ⟨n', me, -⟩ := id ok
                              have key := xRunP (e := e') (R := R) (below := below) (cells := cells) (slots := slots) (rest := st.drop (b.toNat + 1)) C hdec ok hlen hv0 hqn rfl (xMet ih hx2 me hc hcl) hP hS hsz hcnd.2.1 (by omega) (by omega) (by omega) (by omega)
                              rw [stm] at key
                              exact fin _ key
                            · rename_i k
                              obtain rfl : len = 3 := xLenOf hln (by decide) rfl
                              have ok := xLMv_ok _ (lookup_mem hrest) _ hmem
                              obtain ⟨n', x', me, -⟩ := id ok
                              have key := xRunV (e := e') (R := R) (below := below) (cells := cells) (slots := slots) (rest := st.drop (b.toNat + 1)) C hdec ok hlen hv0 hqn rfl (xMet ih hx2 me hc hcl) hP hS hsz hcnd.2.1 (by omega) (by omega) (by omega) (by omega)
                              rw [stm] at key
                              exact fin _ key
                          · cases ht
                        · cases ht
                      · cases ht
                    · cases ht
                  · cases ht
              | none =>
                rw [ht] at e
                simp only at e
                cases hp : mPri txt op a.toNat b.toNat st h with
                | none => rw [hp] at e; cases e
                | some st' =>
                  rw [hp] at e
                  simp only at e
                  have m2 := mRun_mono _ _ _ _ _ _ _ _ _ _ _ e
                  have hsz : ls.size = nL := hAL.1.1
                  have go : ∀ H1 locs1, xP D z ex cA HB h H1 → va_S (xA z) s.heap H1 locs1 → W p l e' R s m args below meth c H1 locs1 cells slots Q (F0 m (pc + len) ls (st'.map (xV z ex))) := fun H1 locs1 g1 g2 => ih _ _ _ _ _ _ _ _ _ _ e C hck h1 h2 hAL g1 g2 hr1 hr2 hret
                  unfold mPri at hp
                  split at hp
                  · split at hp
                    · rename_i hcnd
                      split at hp
                      · rename_i v hv
                        cases hp
                        cases i <;> simp [xDecC] at hrest
                        · rename_i k
                          obtain rfl : len = 3 := xLenOf hln (by decide) rfl
                          obtain ⟨o1, o2⟩ := xLMm_ok _ (lookup_mem hrest)
                          exact xPrimM C hdec o1 o2 hcnd.1 hv hcnd.2 hsz (by omega) (by omega) (by omega) (by omega) (go H locs hP hS)
                        · rename_i k
                          obtain rfl : len = 3 := xLenOf hln (by decide) rfl
                          obtain ⟨o1, o2, o3⟩ := xLMt_ok _ (lookup_mem hrest)
                          simp only at o1 o2 o3
                          have hk2 : a.toNat < 2 := by
                            have := xLMt_lt _ (lookup_mem hrest)
                            exact this
                          rw [o2] at hcnd hv go
                          exact xPrimT hPr C hdec o1 hk2 o3 hcnd.1 hv hcnd.2 hP hS hsz (by omega) (by omega) (by omega) (by omega) go
                      · cases hp
                    · cases hp
                  · split at hp
                    · rename_i x r0
                      split at hp
                      · rename_i q hq
                        split at hp
                        · rename_i hcnd
                          cases hp
                          cases i <;> simp [xDecC] at hrest
                          rename_i k
                          obtain rfl : len = 3 := xLenOf hln (by decide) rfl
                          obtain ⟨⟨hx, hb, hml, hown, hts⟩, -⟩ := id C
                          rw [List.map_cons, xV_ref, xR_ad hq]
                          refine W.objInit (g := F0 m pc ls _) hx hb hown (hts _ (xLMo_ok _ (lookup_mem hrest))) (hts _ xObj1) (hts _ xObj2) rfl (hsz.trans hml.symm) rfl hdec (by omega) ?_ (go H locs hP hS)
                          have := xCat (z := z) (ex := ex) hcnd (g := F0 m pc ls (va_rf (some (z + q)) :: st'.map (xV z ex))) rfl
                          omega
                        · cases hp
                      · cases hp
                    · cases hp
                  · cases hp
end XSOUND3

theorem lit_cases (p : Int32) (m : Nat) : (∃ j, j ≤ m ∧ p = nI j) ∨ ∀ j, j ≤ m → p ≠ nI j := by
  by_cases h : ∃ j, j ≤ m ∧ p = nI j
  · exact Or.inl h
  · exact Or.inr (fun j hj e => h ⟨j, hj, e⟩)
section Night
variable {n : Nat} {tu : Int32} {pi lo de fr to : Nat → Nat} {of lou dep ja sn : Nat → Int32}
theorem innM_congr {row tr : Nat → Int32} (h : ∀ s, s < n → tr s = row s) : innM n tr = innM n row := funext fun k => funext fun s => by
  unfold innM
  by_cases hs : s < n
  · rw [h s hs]
  · rw [decide_eq_false (fun e => hs e.1), decide_eq_false (fun e => hs e.1)]
theorem mo_both {N : Nat} (hN : 70000 ≤ N) (M : MOk n pi lo de fr to of) (E : EarOk n tu pi lo de fr to lou dep ja sn) {row crews tr : Nat → Int32} (hc : Cr n row crews) (hca : CaOk n row) (ht : ∀ s, s < n → tr s = row s) {h : Nat} (hh : h ≤ 12) (h9 : tr 9 = nI h) :
    ∃ (r : Int32) (c' : Nat → Int32), F_X0_morning N 4 lou dep ja sn crews (tr 8) (nI h) = some r ∧ F_X9_morning N (nI n) tu of tr = some (r, c') ∧ ∀ s, bt r s = moG (jarT tu pi) (iF lo) (iF de) (liveT n fr to) (innM n row) (12 - h) (bt (tr 8)) h s := by
  obtain ⟨r, e1, b1⟩ := cl_morning hN M E hc (tr 8) hh
  obtain ⟨c', e2, b2⟩ := v_X9_morning hN M (tu := tu) (c := tr) (fun s hs => by rw [ht s hs]; exact hca s hs) hh h9
  have e : c' 8 = r := b_ext (fun i _ => by rw [b1, b2, innM_congr ht])
  exact ⟨r, c', e1, by rw [e2, e], b1⟩
theorem ls_max (h8 : n ≤ 8) {row crews : Nat → Int32} (hc : Cr n row crews) {k : Nat} (hk : k < 4) : crews k = setN (fun s => decide (row s = nI k)) n := b_ext (fun i _ => by
  rw [hc k hk i, bt_setN _ (by omega), innM]
  by_cases hi : i < n
  · by_cases e : row i = nI k
    · rw [decide_eq_true hi, decide_eq_true e, decide_eq_true ⟨hi, e⟩]; rfl
    · rw [decide_eq_false e, decide_eq_false (fun w => e w.2), Bool.and_false]
  · rw [decide_eq_false hi, decide_eq_false (fun w => hi w.1), Bool.false_and])
end Night
section Ops
variable {si : Nat → Int32} {fa : Nat → Nat → Int32} {sm : Nat → Int32} {fm : Nat → Nat → Int32} {N : Nat}
theorem op_wake (hN : 70000 ≤ N) (I : Inv si fa sm fm) : ∃ r t, F_X8_wake N (si 21) (si 22) (fa 21) (fa 22) (fa 23) (fa 24) (fa 32) = some r ∧ F_X9_wake N (sm 13) (sm 15) (fm 6) (fm 8) (fm 9) = some (r, t) := by
  obtain ⟨hTx, hF, n, c, cp, tu, pi, lo, de, fr, to, be, ⟨a1, a2, a3, M, T, a6, a7, a8, a9, a10, a11, a12, a13, a14, a15⟩, hEa, hNt, hI⟩ := id I
  obtain ⟨b1, b2, b3, b4, b5, h, hh, b6, b7⟩ := id hNt
  obtain ⟨r, c', e1, e2, _⟩ := mo_both hN M hEa.2 (row := fm 8) (crews := fa 32) (tr := va_cpy (fm 8) (fm 9) 0 0 10) b1 (NtOk_ca a1 hNt) (fun s hs => cpy_in0 (by have := M.1; omega)) hh (by rw [cpy_in0 (by omega)]; exact b7)
  rw [cpy_in0 (by omega)] at e1
  unfold F_X8_wake F_X9_wake
  have hcp : F_X9_copy N 10 10 (fm 8) (fm 9) 0 0 = some (va_cpy (fm 8) (fm 9) 0 0 10) := v_X9_copy hN (f := 0) (t := 0) (by omega) (by omega) (by omega) (by omega)
  rw [b4, b6, a11, a13, bnd_of e1, bnd_of hcp, bnd_of e2]
  exact ⟨_, _, rfl, rfl⟩
theorem op_judge (hN : 70000 ≤ N) (I : Inv si fa sm fm) : ∃ r t, F_X8_judge N (si 4) (si 21) (si 22) (fa 39) (fa 40) (fa 21) (fa 22) (fa 23) (fa 24) (fa 32) = some r ∧ F_X9_judge N (sm 13) (sm 15) (sm 18) (fm 6) (fm 8) (fm 9) (fm 14) = some (r, t) := by
  obtain ⟨hTx, hF, n, c, cp, tu, pi, lo, de, fr, to, be, ⟨a1, a2, a3, M, T, a6, a7, a8, a9, a10, a11, a12, a13, a14, a15⟩, hEa, hNt, hSd, hUn, hIm, ⟨e, k1, k2, k3, k4⟩, hMk⟩ := id I
  obtain ⟨b1, b2, b3, b4, b5, h, hh, b6, b7⟩ := id hNt
  obtain ⟨r, c', e1, e2, _⟩ := mo_both hN M hEa.2 (row := fm 8) (crews := fa 32) (tr := va_cpy (fm 8) (fm 9) 0 0 10) b1 (NtOk_ca a1 hNt) (fun s hs => cpy_in0 (by have := M.1; omega)) hh (by rw [cpy_in0 (by omega)]; exact b7)
  rw [cpy_in0 (by omega)] at e1
  have hcp : F_X9_copy N 10 10 (fm 8) (fm 9) 0 0 = some (va_cpy (fm 8) (fm 9) 0 0 10) := v_X9_copy hN (f := 0) (t := 0) (by omega) (by omega) (by omega) (by omega)
  unfold F_X8_judge F_X9_judge F_X8_wake
  rw [b4, b6, a11, a13, k2, k3, bnd_of e1, bnd_some, bnd_of hcp, bnd_of e2]
  have h8 := M.1
  have key : ∀ m f i, i + m = e → m < f → ∃ v t, F_X8_judge_7 N (nI e) (fm 8 8) (nI h) (fa 39) (fa 40) (fa 21) (fa 22) (fa 23) (fa 24) (fa 32) f r (nI i) = some v ∧ F_X9_judge_20 N (nI n) tu (nI e) (fm 6) (fm 8) (fm 14) f c' r (nI i) = some (v, t) := by
    intro m
    induction m with
    | zero =>
      intro f i hi hf
      obtain ⟨g, rfl⟩ : ∃ g, f = g + 1 := ⟨f - 1, by omega⟩
      have q : i = e := by omega
      subst q
      refine ⟨-1, c', ?_, ?_⟩
      · show B_X8_judge_7 N (nI i) (fm 8 8) (nI h) (fa 39) (fa 40) (fa 21) (fa 22) (fa 23) (fa 24) (fa 32) (F_X8_judge_7 N (nI i) (fm 8 8) (nI h) (fa 39) (fa 40) (fa 21) (fa 22) (fa 23) (fa 24) (fa 32) g) r (nI i) = _
        unfold B_X8_judge_7
        rw [if_pos (i_le (Nat.le_refl _) (by omega))]
      · show B_X9_judge_20 N (nI n) tu (nI i) (fm 6) (fm 8) (fm 14) (F_X9_judge_20 N (nI n) tu (nI i) (fm 6) (fm 8) (fm 14) g) c' r (nI i) = _
        unfold B_X9_judge_20
        rw [if_pos (i_le (Nat.le_refl _) (by omega))]
    | succ m ih =>
      intro f i hi hf
      obtain ⟨g, rfl⟩ : ∃ g, f = g + 1 := ⟨f - 1, by omega⟩
      obtain ⟨s, b, q1, q2, q3, q4, q5⟩ := k4 i (by omega)
      have u1 : F_X8_judge_7 N (nI e) (fm 8 8) (nI h) (fa 39) (fa 40) (fa 21) (fa 22) (fa 23) (fa 24) (fa 32) (g + 1) r (nI i) = if ((r >>> (nI s &&& 31)) &&& 1) = b2i b then F_X8_judge_7 N (nI e) (fm 8 8) (nI h) (fa 39) (fa 40) (fa 21) (fa 22) (fa 23) (fa 24) (fa 32) g r (nI (i + 1)) else some (nI i) := by
        show B_X8_judge_7 N (nI e) (fm 8 8) (nI h) (fa 39) (fa 40) (fa 21) (fa 22) (fa 23) (fa 24) (fa 32) (F_X8_judge_7 N (nI e) (fm 8 8) (nI h) (fa 39) (fa 40) (fa 21) (fa 22) (fa 23) (fa 24) (fa 32) g) r (nI i) = _
        unfold B_X8_judge_7
        rw [if_neg (i_nle (by omega) (by omega)), bnd_of (atI_in (by omega) (by omega)), bnd_of (atI_in (by omega) (by omega)), q2, q4, nm_def, i_s]
      have u2 : F_X9_judge_20 N (nI n) tu (nI e) (fm 6) (fm 8) (fm 14) (g + 1) c' r (nI i) = if ((r >>> (nI s &&& 31)) &&& 1) = b2i b then F_X9_judge_20 N (nI n) tu (nI e) (fm 6) (fm 8) (fm 14) g c' r (nI (i + 1)) else some (nI i, c') := by
        show B_X9_judge_20 N (nI n) tu (nI e) (fm 6) (fm 8) (fm 14) (F_X9_judge_20 N (nI n) tu (nI e) (fm 6) (fm 8) (fm 14) g) c' r (nI i) = _
        unfold B_X9_judge_20
        rw [if_neg (i_nle (by omega) (by omega)), show (2 : Int32) = nI 2 from rfl, pk_mul, i_s, i_s, rd_nI (by omega) (by omega), rd_nI (by omega) (by omega), q3, q5, nm_def]
      rw [u1, u2]
      by_cases w : ((r >>> (nI s &&& 31)) &&& 1) = b2i b
      · rw [if_pos w, if_pos w]
        exact ih g (i + 1) (by omega) (by omega)
      · rw [if_neg w, if_neg w]
        exact ⟨_, _, rfl, rfl⟩
  exact key e N 0 (by omega) (by omega)
theorem op_told (hN : 70000 ≤ N) (I : Inv si fa sm fm) (p1 : Int32) : ∃ r, F_X8_told N (si 2) (si 4) (si 5) (si 11) (si 12) (si 13) (si 14) (si 21) (si 22) (fa 32) p1 = some r ∧ F_X9_told N (sm 0) (sm 12) (sm 13) (sm 14) (sm 15) (sm 16) (sm 18) (fm 8) p1 = some r := by
  obtain ⟨⟨len, l1, l2, l3, l4⟩, hF, n, c, cp, tu, pi, lo, de, fr, to, be, ⟨a1, a2, a3, M, T, a6, a7, a8, a9, a10, a11, a12, a13, a14, a15⟩, hEa, hNt, hSd, ⟨o, u, u1, u2, u3, u4, u5, u6⟩, hIm, ⟨e, k1, k2, k3, k4⟩, hMk⟩ := id I
  obtain ⟨b1, b2, b3, b4, b5, h, hh, b6, b7⟩ := id hNt
  have h8 := M.1
  unfold F_X8_told F_X9_told
  by_cases c0 : p1 = 0
  · rw [if_pos c0, if_pos c0, a6, a10]; exact ⟨_, rfl, rfl⟩
  rw [if_neg c0, if_neg c0]
  by_cases c1 : p1 = 1
  · rw [if_pos c1, if_pos c1, a7, a11]; exact ⟨_, rfl, rfl⟩
  rw [if_neg c1, if_neg c1]
  by_cases c2 : p1 = 2
  · rw [if_pos c2, if_pos c2, a8, a12]; exact ⟨_, rfl, rfl⟩
  rw [if_neg c2, if_neg c2]
  by_cases c3 : p1 = 3
  · rw [if_pos c3, if_pos c3, a9, a13]; exact ⟨_, rfl, rfl⟩
  rw [if_neg c3, if_neg c3]
  by_cases c4 : p1 = 4
  · rw [if_pos c4, if_pos c4, l2, l3]; exact ⟨_, rfl, rfl⟩
  rw [if_neg c4, if_neg c4]
  by_cases c5 : p1 = 5
  · rw [if_pos c5, if_pos c5, show (9 : Int32) = nI 9 from rfl, rd_nI (by omega) (by omega), b6, b7]; exact ⟨_, rfl, rfl⟩
  rw [if_neg c5, if_neg c5]
  by_cases c6 : p1 = 6
  · rw [if_pos c6, if_pos c6, show (8 : Int32) = nI 8 from rfl, rd_nI (by omega) (by omega), b4]; exact ⟨_, rfl, rfl⟩
  rw [if_neg c6, if_neg c6]
  by_cases c7 : p1 = 7
  · rw [if_pos c7, if_pos c7, a7, a11, bnd_of (v_X9_thereIn hN (m := 10) (by omega) h8 (fm 8) (-1))]
    unfold F_X8_allSleepers
    rw [bnd_some, bnd_of (v_X2_inCars hN (fa 32))]
    refine ⟨_, rfl, congrArg some (b_ext (fun i hi => ?_))⟩
    rw [b_and, bt_not _ hi, bt_all n h8 i hi, bt_setN _ (by omega), bt_orN, b_0, Bool.false_or]
    by_cases hin : i < n
    · rw [decide_eq_true hin, Bool.true_and, Bool.true_and]
      rcases NtOk_ca a1 hNt i hin with q | ⟨k, hk, q⟩
      · rw [decide_eq_true q, anyN_no (fun k hk => by rw [b1 k hk i, innM, decide_eq_false (fun w => i_m1' (by omega) (q.symm.trans w.2))])]
        rfl
      · rw [decide_eq_false (fun w => i_m1 (a := k) (by omega) (q.symm.trans w)), anyN_iff.mpr ⟨k, hk, by rw [b1 k hk i, innM, decide_eq_true ⟨hin, q⟩]⟩]
        rfl
    · rw [decide_eq_false hin, Bool.false_and, Bool.false_and]
  rw [if_neg c7, if_neg c7]
  by_cases c8 : p1 = 8
  · rw [if_pos c8, if_pos c8, k2, k3]; exact ⟨_, rfl, rfl⟩
  rw [if_neg c8, if_neg c8]
  by_cases c9 : p1 = 9
  · rw [if_pos c9, if_pos c9, u4, u5]; exact ⟨_, rfl, rfl⟩
  rw [if_neg c9, if_neg c9]
  exact ⟨_, rfl, rfl⟩
theorem snor_bits {n : Nat} {tu : Int32} {pi lo de fr to : Nat → Nat} {lou dep ja sn row crews : Nat → Int32} (E : EarOk n tu pi lo de fr to lou dep ja sn) (hc : Cr n row crews) (aw : Int32) {k h : Nat} (hk : k < 4) (hh : h < 12) (i : Nat) (hi : i < 32) : bt ((crews k &&& (aw ^^^ (-1))) &&& sn h) i = (innM n row k i && (!bt aw i && liveT n fr to h i)) := by
  rw [b_and, b_and, bt_not _ hi, hc k hk i, E.2.2.2 h hh i, Bool.and_assoc]
theorem outT_congr {n : Nat} {jar : Nat → Nat → Bool} {p q : Nat → Bool} (h : ∀ i, i < n → p i = q i) : outT n jar p = outT n jar q := by
  unfold outT
  refine anyN_congr (fun s hs => ?_)
  rw [h s hs, anyN_congr (fun t ht => by rw [h t ht])]
theorem op_car (hN : 70000 ≤ N) (I : Inv si fa sm fm) (p1 p2 : Int32) : ∃ r, F_X8_car N (si 11) (si 19) (si 21) (si 22) (fa 4) (fa 23) (fa 24) (fa 32) p1 p2 = some r ∧ F_X9_car N (sm 12) (sm 13) (sm 15) (fm 5) (fm 6) (fm 8) p1 p2 = some r := by
  obtain ⟨hTx, hF, n, c, cp, tu, pi, lo, de, fr, to, be, ⟨a1, a2, a3, M, T, a6, a7, a8, a9, a10, a11, a12, a13, a14, a15⟩, hEa, hNt, hI⟩ := id I
  obtain ⟨b1, b2, b3, b4, b5, h, hh, b6, b7⟩ := id hNt
  have h8 := M.1
  unfold F_X8_car F_X9_car
  rw [a6, a10, a11, a13, hEa.1]
  rcases no_car (c := c) (by omega) p1 with ⟨e1, e2⟩ | ⟨k, hk, rfl, e1, e2⟩
  · rw [bnd_of e1, bnd_of e2, if_neg (show ¬ (1 : Int32) = 0 by decide), if_pos (show (0 : Int32) = 0 from rfl)]
    exact ⟨_, rfl, rfl⟩
  · rw [bnd_of e1, bnd_of e2, if_neg (show ¬ (1 : Int32) = 0 by decide), if_pos (show (0 : Int32) = 0 from rfl)]
    by_cases c0 : p2 = 0
    · subst c0
      rw [if_pos rfl, bnd_of (show F_X9_in 0 0 2 = some 1 from rfl), if_neg (show ¬ (1 : Int32) = 0 by decide), if_pos rfl, bnd_of (atI_in (by omega) (by omega)), rd_nI (by omega) (by omega), (a14 k hk).1, (a14 k hk).2.1]
      exact ⟨_, rfl, rfl⟩
    by_cases c1 : p2 = 1
    · subst c1
      rw [if_neg (show ¬ (1 : Int32) = 0 by decide), if_pos (show (1 : Int32) = 1 from rfl), bnd_of (show F_X9_in 1 0 2 = some 1 from rfl), if_neg (show ¬ (1 : Int32) = 0 by decide), if_neg (show ¬ (1 : Int32) = 0 by decide), if_pos (show (1 : Int32) = 1 from rfl), bnd_of (atI_in (by omega) (by omega)), bnd_of (v_X9_thereIn hN (m := 10) (by omega) h8 (fm 8) (nI k)), ls_max h8 b1 (by omega : k < 4)]
      exact ⟨_, rfl, rfl⟩
    by_cases c2 : p2 = 2
    · subst c2
      rw [if_neg (show ¬ (2 : Int32) = 0 by decide), if_neg (show ¬ (2 : Int32) = 1 by decide), if_pos (show (2 : Int32) = 2 from rfl), bnd_of (show F_X9_in 2 0 2 = some 1 from rfl), if_neg (show ¬ (1 : Int32) = 0 by decide), if_neg (show ¬ (2 : Int32) = 0 by decide), if_neg (show ¬ (2 : Int32) = 1 by decide), show (9 : Int32) = nI 9 from rfl, rd_nI (by omega) (by omega), b6, b7]
      unfold F_X8_snorersNow
      rw [bnd_of (atI_in (by omega) (by omega))]
      by_cases h12 : h < 12
      · rw [bnd_of (v_X0_snorers h12), bnd_some, bnd_of (v_X0_isOutOfTune hN h8 hEa.2 _), bnd_of (v_X9_isOut hN M (m := 10) (by omega) (by omega) h12), b4,
          outT_congr (q := fun s => innM n (fm 8) k s && (!bt (fm 8 8) s && liveT n fr to h s)) (fun i hi => snor_bits hEa.2 b1 _ (by omega) h12 i (by omega))]
        generalize outT n (jarT tu pi) (fun s => innM n (fm 8) k s && (!bt (fm 8 8) s && liveT n fr to h s)) = b
        cases b with
        | false => exact ⟨_, rfl, rfl⟩
        | true => exact ⟨_, rfl, rfl⟩
      · have q : h = 12 := by omega
        subst q
        rw [bnd_of v_X0_snorers12, bnd_some, bnd_of (v_X0_isOutOfTune hN h8 hEa.2 _)]
        unfold F_X9_isOut
        rw [if_neg (nlt12 (Nat.le_refl _) (by omega)), bnd_some, show outT n (jarT tu pi) (bt (fa 32 k &&& (si 21 ^^^ (-1)) &&& 0)) = false from anyN_no (fun i hi => by rw [b_and, b_0, Bool.and_false, Bool.false_and])]
        exact ⟨_, rfl, rfl⟩
    have hin : F_X9_in p2 0 2 = some 0 := in_out (m := 2) (by omega) (fun j hj e => by
      rcases (show j = 0 ∨ j = 1 ∨ j = 2 by omega) with rfl | rfl | rfl
      · exact c0 e
      · exact c1 e
      · exact c2 e)
    rw [if_neg c0, if_neg c1, if_neg c2, bnd_of hin, if_pos rfl]
    exact ⟨_, rfl, rfl⟩
end Ops

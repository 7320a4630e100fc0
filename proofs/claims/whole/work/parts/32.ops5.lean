section Noise
variable {n : Nat} {tu : Int32} {pi lo de fr to : Nat → Nat} {of lou dep ja sn row crews : Nat → Int32} {N : Nat}
theorem noise_now (hN : 70000 ≤ N) (M : MOk n pi lo de fr to of) (E : EarOk n tu pi lo de fr to lou dep ja sn) (hc : Cr n row crews) (ho : CaOk n row) (hb : ∀ s, bt (row 8) s = true → s < n) {h : Nat} (hh : h ≤ 12) {s : Nat} (hs : s < n) :
    ∃ r, F_X8_noiseNow N (row 8) (nI h) lou ja sn crews (nI s) = some r ∧ F_X9_noiseFor N 10 (nI n) tu of row (nI s) (nI h) = some r := by
  have h8 := M.1
  unfold F_X8_noiseNow
  rw [bnd_of (v_X8_carOf hN h8 hc ho hs)]
  by_cases q : row s = -1
  · rw [if_pos q]
    exact ⟨_, rfl, v_X9_noiseFor0 M (by omega) hs hh (Or.inl q)⟩
  rw [if_neg q]
  by_cases w : bt (row 8) s = true
  · rw [if_pos ((bt_one (by omega)).mpr w)]
    exact ⟨_, rfl, v_X9_noiseFor0 M (by omega) hs hh (Or.inr (Or.inl w))⟩
  rw [if_neg (fun e => w ((bt_one (by omega)).mp e))]
  have w2 : bt (row 8) s = false := by simpa using w
  rcases ho s hs with z | ⟨k, hk, z⟩
  · exact absurd z q
  rw [z]
  unfold F_X8_snorersNow
  rw [bnd_of (atI_in hk (by omega))]
  by_cases h12 : h < 12
  · rw [bnd_of (v_X0_snorers h12), bnd_some, bnd_of (v_X0_noise hN (by omega) _), ear_sum E (p := fun t => innM n row k t && (!bt (row 8) t && liveT n fr to h t)) (fun t ht => snor_bits E hc _ hk h12 t (by omega)) (fun t ht => (of_decide_eq_true ((Bool.and_eq_true _ _).mp ht).1).1) hs]
    exact ⟨_, rfl, v_X9_noiseFor hN M (by omega) hs hk z w2 h12⟩
  · have e : h = 12 := by omega
    subst e
    rw [bnd_of v_X0_snorers12, bnd_some, bnd_of (v_X0_noise hN (by omega) _), sumN_0 8 (fun t ht => if_neg (by rw [b_and, b_and, b_0, Bool.and_false, Bool.false_and]; decide))]
    exact ⟨_, rfl, v_X9_noiseFor0 M (by omega) hs hh (Or.inr (Or.inr rfl))⟩
def coldP (d : Int64) : Nat → Int64
  | 0 => 1000000000
  | m + 1 => (coldP d m * d) / 100
end Noise
section Ops
variable {si : Nat → Int32} {fa : Nat → Nat → Int32} {sm : Nat → Int32} {fm : Nat → Nat → Int32} {N : Nat}
theorem op_sleeper (hN : 70000 ≤ N) (I : Inv si fa sm fm) (p1 p2 : Int32) : ∃ r, F_X8_sleeper N (si 12) (si 21) (si 22) (fa 5) (fa 6) (fa 7) (fa 8) (fa 9) (fa 10) (fa 21) (fa 23) (fa 24) (fa 32) p1 p2 = some r ∧ F_X9_sleeper N (sm 13) (sm 15) (fm 6) (fm 7) (fm 8) p1 p2 = some r := by
  obtain ⟨hTx, hF, n, c, cp, tu, pi, lo, de, fr, to, be, ⟨a1, a2, a3, M, T, a6, a7, a8, a9, a10, a11, a12, a13, a14, a15⟩, hEa, hNt, hI⟩ := id I
  obtain ⟨b1, b2, b3, b4, b5, h, hh, b6, b7⟩ := id hNt
  have h8 := M.1
  unfold F_X8_sleeper F_X9_sleeper
  rw [a7, a11, a13]
  rcases no_one (c := n) (by omega) p1 with ⟨e1, e2⟩ | ⟨s, hs, rfl, e1, e2⟩
  · rw [bnd_of e1, bnd_of e2, if_neg (show ¬ (1 : Int32) = 0 by decide), if_pos (show (0 : Int32) = 0 from rfl)]
    exact ⟨_, rfl, rfl⟩
  have hT := T s hs
  have hM := M.2 s hs
  rw [bnd_of e1, bnd_of e2, if_neg (show ¬ (1 : Int32) = 0 by decide), if_pos (show (0 : Int32) = 0 from rfl)]
  by_cases c0 : p2 = 0
  · subst c0
    rw [if_pos rfl, bnd_of (atI_in (by omega) (by omega)), bnd_of (show F_X9_in 0 0 8 = some 1 from rfl), if_neg (show ¬ (1 : Int32) = 0 by decide), if_neg (show ¬ (5 : Int32) ≤ 0 by decide), show (5 : Int32) * nI s + 0 = nI (5 * s + 0) from i_of5, rd_nI (by omega) (by omega), hT.1, Nat.add_zero, hM.1]
    exact ⟨_, rfl, rfl⟩
  rw [if_neg c0]
  by_cases c1 : p2 = 1
  · subst c1
    rw [if_pos rfl, bnd_of (atI_in (by omega) (by omega)), bnd_of (show F_X9_in 1 0 8 = some 1 from rfl), if_neg (show ¬ (1 : Int32) = 0 by decide), if_neg (show ¬ (5 : Int32) ≤ 1 by decide), show (5 : Int32) * nI s + 1 = nI (5 * s + 1) from i_of5, rd_nI (by omega) (by omega), hT.2.1, hM.2.1]
    exact ⟨_, rfl, rfl⟩
  rw [if_neg c1]
  by_cases c2 : p2 = 2
  · subst c2
    rw [if_pos rfl, bnd_of (atI_in (by omega) (by omega)), bnd_of (show F_X9_in 2 0 8 = some 1 from rfl), if_neg (show ¬ (1 : Int32) = 0 by decide), if_neg (show ¬ (5 : Int32) ≤ 2 by decide), show (5 : Int32) * nI s + 2 = nI (5 * s + 2) from i_of5, rd_nI (by omega) (by omega), hT.2.2.1, hM.2.2.1]
    exact ⟨_, rfl, rfl⟩
  rw [if_neg c2]
  by_cases c3 : p2 = 3
  · subst c3
    rw [if_pos rfl, bnd_of (atI_in (by omega) (by omega)), bnd_of (show F_X9_in 3 0 8 = some 1 from rfl), if_neg (show ¬ (1 : Int32) = 0 by decide), if_neg (show ¬ (5 : Int32) ≤ 3 by decide), show (5 : Int32) * nI s + 3 = nI (5 * s + 3) from i_of5, rd_nI (by omega) (by omega), hT.2.2.2.1, hM.2.2.2.1]
    exact ⟨_, rfl, rfl⟩
  rw [if_neg c3]
  by_cases c4 : p2 = 4
  · subst c4
    rw [if_pos rfl, bnd_of (atI_in (by omega) (by omega)), bnd_of (show F_X9_in 4 0 8 = some 1 from rfl), if_neg (show ¬ (1 : Int32) = 0 by decide), if_neg (show ¬ (5 : Int32) ≤ 4 by decide), show (5 : Int32) * nI s + 4 = nI (5 * s + 4) from i_of5, rd_nI (by omega) (by omega), hT.2.2.2.2, hM.2.2.2.2.1]
    exact ⟨_, rfl, rfl⟩
  rw [if_neg c4]
  by_cases c5 : p2 = 5
  · subst c5
    rw [if_pos rfl, bnd_of (v_X8_carOf hN h8 b1 (NtOk_ca a1 hNt) hs), bnd_of (show F_X9_in 5 0 8 = some 1 from rfl), if_neg (show ¬ (1 : Int32) = 0 by decide), if_pos (show (5 : Int32) ≤ 5 by decide), if_pos rfl, rd_nI (by omega) (by omega)]
    exact ⟨_, rfl, rfl⟩
  rw [if_neg c5, if_neg c5]
  by_cases c6 : p2 = 6
  · subst c6
    rw [if_pos rfl, bnd_of (show F_X9_in 6 0 8 = some 1 from rfl), if_neg (show ¬ (1 : Int32) = 0 by decide), if_pos (show (5 : Int32) ≤ 6 by decide), if_pos rfl, show (8 : Int32) = nI 8 from rfl, rd_nI (by omega) (by omega), b4]
    exact ⟨_, rfl, rfl⟩
  rw [if_neg c6, if_neg c6]
  by_cases c7 : p2 = 7
  · subst c7
    rw [if_pos rfl, bnd_of (atI_in (by omega) (by omega)), bnd_of (show F_X9_in 7 0 8 = some 1 from rfl), if_neg (show ¬ (1 : Int32) = 0 by decide), if_pos (show (5 : Int32) ≤ 7 by decide), if_pos rfl, rd_nI (by omega) (by omega), (a15 s hs).1]
    exact ⟨_, rfl, rfl⟩
  rw [if_neg c7, if_neg c7]
  by_cases c8 : p2 = 8
  · subst c8
    obtain ⟨r, r1, r2⟩ := noise_now hN M hEa.2 b1 (NtOk_ca a1 hNt) (by rw [← b4]; exact b5) hh hs
    rw [if_pos rfl, b4, b6, bnd_of r1, bnd_of (show F_X9_in 8 0 8 = some 1 from rfl), if_neg (show ¬ (1 : Int32) = 0 by decide), if_pos (show (5 : Int32) ≤ 8 by decide), show (9 : Int32) = nI 9 from rfl, rd_nI (by omega) (by omega), b7, bnd_of r2]
    exact ⟨_, rfl, rfl⟩
  have hin : F_X9_in p2 0 8 = some 0 := in_out (m := 8) (by omega) (fun j hj e => by
    rcases (show j = 0 ∨ j = 1 ∨ j = 2 ∨ j = 3 ∨ j = 4 ∨ j = 5 ∨ j = 6 ∨ j = 7 ∨ j = 8 by omega) with rfl | rfl | rfl | rfl | rfl | rfl | rfl | rfl | rfl
    · exact c0 e
    · exact c1 e
    · exact c2 e
    · exact c3 e
    · exact c4 e
    · exact c5 e
    · exact c6 e
    · exact c7 e
    · exact c8 e)
  rw [if_neg c8, bnd_of hin, if_pos rfl]
  exact ⟨_, rfl, rfl⟩
theorem op_cold (hN : 70000 ≤ N) (I : Inv si fa sm fm) (p1 p2 : Int32) : ∃ r, F_X8_cold N (si 12) p1 p2 = some r ∧ F_X9_cold N (sm 13) p1 p2 = some r := by
  obtain ⟨hTx, hF, n, c, cp, tu, pi, lo, de, fr, to, be, ⟨a1, a2, a3, M, T, a6, a7, a8, a9, a10, a11, a12, a13, a14, a15⟩, hI⟩ := id I
  have h8 := M.1
  unfold F_X8_cold F_X9_cold
  rw [a7, a11]
  rcases no_set h8 p1 with ⟨e1, e2⟩ | ⟨e1, e2, hb⟩
  · rw [bnd_of e1, bnd_of e2, if_neg (show ¬ (1 : Int32) = 0 by decide), if_pos (show (0 : Int32) = 0 from rfl)]
    exact ⟨_, rfl, rfl⟩
  rw [bnd_of e1, bnd_of e2, if_neg (show ¬ (1 : Int32) = 0 by decide), if_pos (show (0 : Int32) = 0 from rfl)]
  rcases in_cases p2 (m := 100) (by omega) with ⟨q1, q2⟩ | ⟨j, j1, j2, rfl, q1, q2⟩ | ⟨j, j1, rfl, q1, q2⟩
  · have q2 : F_X9_in p2 0 100 = some 0 := q2
    rw [if_pos q1, bnd_of q2, if_pos rfl]
    exact ⟨_, rfl, rfl⟩
  · have q2 : F_X9_in (nI j) 0 100 = some 0 := q2
    rw [if_neg q1, if_neg (nle100 j1 j2), bnd_of q2, if_pos rfl]
    exact ⟨_, rfl, rfl⟩
  · have q2 : F_X9_in (nI j) 0 100 = some 1 := q2
    have hcn := cnt_le (p := bt p1) 8
    have hc8 : cnt (bt p1) n = cnt (bt p1) 8 := by
      have : ∀ m, m + n ≤ 8 → cnt (bt p1) (m + n) = cnt (bt p1) n := fun m => by
        induction m with
        | zero => intro _; rw [Nat.zero_add]
        | succ m ih =>
          intro hm
          have e : bt p1 (m + n) = false := by
            cases w : bt p1 (m + n) with
            | false => rfl
            | true => have := hb _ w; omega
          rw [show m + 1 + n = (m + n) + 1 by omega, cnt, ih (by omega), e]
          rfl
      have h9 := this (8 - n) (by omega)
      rw [show 8 - n + n = 8 by omega] at h9
      exact h9.symm
    rw [if_neg q1, if_pos (le100 j1), bnd_of q2, if_neg (show ¬ (1 : Int32) = 0 by decide)]
    refine ⟨(coldP ((100 : Int32) - nI j).toInt64 (cnt (bt p1) n)).toInt32, ?_, ?_⟩
    · refine lq2_run (fun i => coldP ((100 : Int32) - nI j).toInt64 (cnt (bt p1) i)) (fun i => nI i) n _ (fun self i hi => ?_) (fun self => ?_) N (by omega)
      · unfold B_X8_cold_31
        rw [if_neg (i_nle hi (by omega)), cnt]
        by_cases w : bt p1 i = true
        · rw [if_pos ((bt_one (by omega)).mpr w), if_pos w, nm_def, nm_def, i_s]
          rfl
        · rw [if_neg (fun e => w ((bt_one (by omega)).mp e)), if_neg w, nm_def, i_s]
          rfl
      · unfold B_X8_cold_31
        rw [if_pos (i_le (Nat.le_refl _) (by omega))]
    · rw [hc8]
      refine lq2_run (fun i => coldP ((100 : Int32) - nI j).toInt64 i) (fun i => nI i) (cnt (bt p1) 8) _ (fun self i hi => ?_) (fun self => ?_) N (by omega)
      · unfold B_X9_cold_31
        rw [bnd_of (v_X9_bits hN p1), if_neg (i_nle hi (by omega)), nm_def, nm_def, i_s]
        rfl
      · unfold B_X9_cold_31
        rw [bnd_of (v_X9_bits hN p1), if_pos (i_le (Nat.le_refl _) (by omega))]
end Ops

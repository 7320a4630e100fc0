section Few
variable {n c : Nat} {be : Nat → Nat} {tu : Int32} {pi lo de fr to : Nat → Nat} {of f4 lou dep ja sn : Nat → Int32} {aw : Int32} {h N : Nat}
theorem v_fewest_109 (hN : 70000 ≤ N) (M : MOk n pi lo de fr to of) (E : EarOk n tu pi lo de fr to lou dep ja sn) (hc4 : c ≤ 4) (hb : ∀ k, k < c → f4 k = nI (be k) ∧ be k ≤ 8) {row crews : Nat → Int32} (R : RwOk n c be row) (hc : Cr n row crews) (hh : h ≤ 12) {L : Nat} {P : Nat → Nat} {cd lf rt st : Nat → Int32} (S : StL n c be row L P cd lf rt st 200) (hL : L ≤ 52) (nc codes : Nat → Int32) :
    ∀ (m g i : Nat) (qu : Nat → Int32) (m2 : Int32) (cd2 lf2 rt2 st2 : Nat → Int32), i + m = L → m < g → QuI n tu pi lo de fr to aw h qu → (∀ j, j < i → ¬ Mv2 n c be (quM n tu pi lo de fr to aw h) row (P j)) →
      ∃ o, F_X4_fewest_109 N (nI c) (nI n) f4 lou dep ja sn aw (nI h) nc g codes crews qu (nI L) m2 cd lf rt st cd2 lf2 rt2 st2 (nI i) = some o ∧ ((o.1 = -1 ∧ Non (Mv2 n c be (quM n tu pi lo de fr to aw h) row)) ∨ (o.1 = 2 ∧ ∃ a b, Fst (Mv2 n c be (quM n tu pi lo de fr to aw h) row) a ∧ Fst (Mv1 n c be (quM n tu pi lo de fr to aw h) (mvR row a)) b ∧ o.2.1 0 = nI a ∧ o.2.1 1 = nI b)) := by
  have h8 := M.1
  intro m
  induction m with
  | zero =>
    intro g i qu m2 cd2 lf2 rt2 st2 hi hg W hq
    obtain ⟨g', rfl⟩ : ∃ g', g = g' + 1 := ⟨g - 1, by omega⟩
    rw [show F_X4_fewest_109 N (nI c) (nI n) f4 lou dep ja sn aw (nI h) nc (g' + 1) codes crews qu (nI L) m2 cd lf rt st cd2 lf2 rt2 st2 (nI i) = B_X4_fewest_109 N (nI c) (nI n) f4 lou dep ja sn aw (nI h) nc (F_X4_fewest_109 N (nI c) (nI n) f4 lou dep ja sn aw (nI h) nc g') codes crews qu (nI L) m2 cd lf rt st cd2 lf2 rt2 st2 (nI i) from rfl]
    unfold B_X4_fewest_109
    rw [if_pos (i_le (by omega) (by omega))]
    refine ⟨_, rfl, Or.inl ⟨rfl, fun q hq2 hm => ?_⟩⟩
    obtain ⟨j, hj, ej⟩ := S.2.2 q hq2 hm.1
    exact hq j (by omega) (by rw [ej]; exact hm)
  | succ m ih =>
    intro g i qu m2 cd2 lf2 rt2 st2 hi hg W hq
    obtain ⟨g', rfl⟩ : ∃ g', g = g' + 1 := ⟨g - 1, by omega⟩
    obtain ⟨s1, s2, s3, s4⟩ := S.1 i (by omega)
    obtain ⟨crews', g1, g2, g3⟩ := go_both h8 hc s2 (by omega) s4
    have R' := mv_ok h8 hc4 R s2
    obtain ⟨L2, P2, cd2', lf2', rt2', st2', l1, S2, hL2⟩ := v_X5_list hN h8 hc4 hb R' g3 m2 cd2 lf2 rt2 st2
    obtain ⟨qu', q1, q2⟩ := v_X4_firstQuiet hN M E g3 hh S2 hL2 W
    rw [show F_X4_fewest_109 N (nI c) (nI n) f4 lou dep ja sn aw (nI h) nc (g' + 1) codes crews qu (nI L) m2 cd lf rt st cd2 lf2 rt2 st2 (nI i) = B_X4_fewest_109 N (nI c) (nI n) f4 lou dep ja sn aw (nI h) nc (F_X4_fewest_109 N (nI c) (nI n) f4 lou dep ja sn aw (nI h) nc g') codes crews qu (nI L) m2 cd lf rt st cd2 lf2 rt2 st2 (nI i) from rfl]
    unfold B_X4_fewest_109
    rw [if_neg (i_nle (by omega) (by omega)), bnd_of g1, bnd_of l1]
    rcases q2 with ⟨j, hj, q2, q3⟩ | ⟨q2, q3⟩
    · have hsj := S2.1 j hj
      have w0 : F_X8_lay 2 codes 0 (nI (P i)) = some (upd codes 0 (nI (P i))) := layI_in (i := 0) (by omega) (by omega)
      have w1 : F_X8_lay 2 (upd codes 0 (nI (P i))) 1 (nI (P2 j)) = some (upd (upd codes 0 (nI (P i))) 1 (nI (P2 j))) := layI_in (i := 1) (by omega) (by omega)
      rw [bnd_of q3, bnd_of g2, if_neg (show ¬ (nI j, crews', qu').1 = -1 from i_m1 (by omega)), bnd_of (atI_in (by omega) (by omega)), s3, bnd_of w0]
      show ∃ o, bnd (F_X8_at 52 cd2' (nI j)) _ = some o ∧ _
      rw [bnd_of (atI_in (by omega) (by omega)), hsj.2.2.1, bnd_of w1]
      refine ⟨_, rfl, Or.inr ⟨rfl, P i, P2 j, ⟨s1, ⟨s2, P2 j, hsj.1, q2.2.1⟩, fun q hq2 hm => ?_⟩, q2, ?_, ?_⟩⟩
      · obtain ⟨j', hj', ej⟩ := S.2.2 q (by omega) hm.1
        have hji : j' < i := by
          rcases Nat.lt_or_ge j' i with w | w
          · exact w
          · rcases Nat.lt_or_ge i j' with w2 | w2
            · have := S.2.1 i j' w2 hj'
              omega
            · have : i = j' := by omega
              subst this
              omega
        exact hq j' hji (by rw [ej]; exact hm)
      · show upd (upd codes 0 (nI (P i))) 1 (nI (P2 j)) 0 = _
        rw [pk_un (by omega), pk_us]
      · show upd (upd codes 0 (nI (P i))) 1 (nI (P2 j)) 1 = _
        rw [pk_us]
    · rw [bnd_of q3, bnd_of g2, if_pos (show ((-1 : Int32), crews', qu').1 = -1 from rfl), nm_def, i_s]
      exact ih g' (i + 1) qu' _ _ _ _ _ (by omega) (by omega) q1 (fun j hj => by
        by_cases e : j = i
        · rw [e]
          exact fun w => by
            obtain ⟨_, q, hq1, hq2⟩ := w
            exact q2 q hq1 hq2
        · exact hq j (by omega))
theorem v_X4_fewest (hN : 70000 ≤ N) (M : MOk n pi lo de fr to of) (E : EarOk n tu pi lo de fr to lou dep ja sn) (hc4 : c ≤ 4) (hb : ∀ k, k < c → f4 k = nI (be k) ∧ be k ≤ 8) {row nc : Nat → Int32} (R : RwOk n c be row) (hc : Cr n row nc) (hh : h ≤ 12) (codes cr0 qu0 : Nat → Int32) (m1 m2 : Int32) (cd1 lf1 rt1 st1 cd2 lf2 rt2 st2 : Nat → Int32) :
    ∃ o, F_X4_fewest N codes cr0 qu0 m1 m2 cd1 lf1 rt1 st1 cd2 lf2 rt2 st2 (nI c) (nI n) f4 lou dep ja sn aw (nI h) nc = some o ∧ MvS n c be (quM n tu pi lo de fr to aw h) row o.1 o.2.1 := by
  have h8 := M.1
  unfold F_X4_fewest
  rw [bnd_of (v_J7_fill (by omega) (by omega) qu0 0)]
  have W0 : QuI n tu pi lo de fr to aw h (va_cpy (fun _ => 0) qu0 0 0 256) := fun m hm => Or.inl (by rw [cpy_in0 hm])
  generalize va_cpy (fun _ => 0) qu0 0 0 256 = qu at W0
  have key : ∀ (m g i : Nat), i + m = 4 → m < g → ∃ o, F_X4_fewest_11 N (nI c) (nI n) f4 lou dep ja sn aw (nI h) nc g codes (va_cpy nc cr0 0 0 i) qu m1 m2 cd1 lf1 rt1 st1 cd2 lf2 rt2 st2 (nI i) = some o ∧ MvS n c be (quM n tu pi lo de fr to aw h) row o.1 o.2.1 := by
    intro m
    induction m with
    | zero =>
      intro g i hi hg
      obtain ⟨g', rfl⟩ : ∃ g', g = g' + 1 := ⟨g - 1, by omega⟩
      have ei : i = 4 := by omega
      subst ei
      have hc' : Cr n row (va_cpy nc cr0 0 0 4) := fun k hk s => by rw [cpy_in0 hk]; exact hc k hk s
      generalize va_cpy nc cr0 0 0 4 = crews at hc'
      rw [show F_X4_fewest_11 N (nI c) (nI n) f4 lou dep ja sn aw (nI h) nc (g' + 1) codes crews qu m1 m2 cd1 lf1 rt1 st1 cd2 lf2 rt2 st2 (nI 4) = B_X4_fewest_11 N (nI c) (nI n) f4 lou dep ja sn aw (nI h) nc (F_X4_fewest_11 N (nI c) (nI n) f4 lou dep ja sn aw (nI h) nc g') codes crews qu m1 m2 cd1 lf1 rt1 st1 cd2 lf2 rt2 st2 (nI 4) from rfl]
      unfold B_X4_fewest_11
      obtain ⟨b, qu', q1, q2, q3⟩ := v_X4_isQuiet hN M E hc' hh W0
      rw [if_pos (ge4 (Nat.le_refl _) (by omega)), bnd_of q1]
      cases b with
      | true =>
        rw [if_neg (show ¬ (b2i true, qu').1 = 0 from (by decide : ¬ b2i true = 0))]
        exact ⟨_, rfl, Or.inl ⟨rfl, q2.mp rfl⟩⟩
      | false =>
        have nq : ¬ quM n tu pi lo de fr to aw h row := fun w => by have := q2.mpr w; cases this
        obtain ⟨L, P, cd, lf, rt, st, l1, S, hL⟩ := v_X5_list hN h8 hc4 hb R hc' m1 cd1 lf1 rt1 st1
        obtain ⟨qu2, z1, z2⟩ := v_X4_firstQuiet hN M E hc' hh S hL q3
        rw [if_pos (show (b2i false, qu').1 = 0 from rfl), bnd_of l1]
        rcases z2 with ⟨j, hj, z2, z3⟩ | ⟨z2, z3⟩
        · have hsj := S.1 j hj
          have w0 : F_X8_lay 2 codes 0 (nI (P j)) = some (upd codes 0 (nI (P j))) := layI_in (i := 0) (by omega) (by omega)
          rw [bnd_of z3, if_neg (show ¬ (nI j, crews, qu2).1 = -1 from i_m1 (by omega))]
          show ∃ o, bnd (F_X8_at 52 cd (nI j)) _ = some o ∧ _
          rw [bnd_of (atI_in (by omega) (by omega)), hsj.2.2.1, bnd_of w0]
          exact ⟨_, rfl, Or.inr (Or.inl ⟨rfl, nq, P j, z2, (pk_us : upd codes 0 (nI (P j)) 0 = nI (P j))⟩)⟩
        · rw [bnd_of z3, if_pos (show ((-1 : Int32), crews, qu2).1 = -1 from rfl)]
          obtain ⟨o, y1, y2⟩ := v_fewest_109 hN M E hc4 hb R hc' hh S hL nc codes L N 0 qu2 m2 cd2 lf2 rt2 st2 (by omega) (by omega) z1 (fun j hj => absurd hj (by omega))
          refine ⟨o, y1, ?_⟩
          rcases y2 with ⟨y2, y3⟩ | ⟨y2, a, b, y3, y4, y5, y6⟩
          · exact Or.inr (Or.inr (Or.inr ⟨y2, nq, z2, y3⟩))
          · exact Or.inr (Or.inr (Or.inl ⟨y2, nq, z2, a, b, y3, y4, y5, y6⟩))
    | succ m ih =>
      intro g i hi hg
      obtain ⟨g', rfl⟩ : ∃ g', g = g' + 1 := ⟨g - 1, by omega⟩
      rw [show F_X4_fewest_11 N (nI c) (nI n) f4 lou dep ja sn aw (nI h) nc (g' + 1) codes (va_cpy nc cr0 0 0 i) qu m1 m2 cd1 lf1 rt1 st1 cd2 lf2 rt2 st2 (nI i) = B_X4_fewest_11 N (nI c) (nI n) f4 lou dep ja sn aw (nI h) nc (F_X4_fewest_11 N (nI c) (nI n) f4 lou dep ja sn aw (nI h) nc g') codes (va_cpy nc cr0 0 0 i) qu m1 m2 cd1 lf1 rt1 st1 cd2 lf2 rt2 st2 (nI i) from rfl]
      unfold B_X4_fewest_11
      rw [if_neg (nge4 (by omega)), bnd_of (atI_in (by omega) (by omega)), wr_nI (by omega) (by omega), nm_def, i_s, cpy_s0]
      exact ih g' (i + 1) (by omega) (by omega)
  have k0 := key 4 N 0 (by omega) (by omega)
  rw [cpy_0] at k0
  exact k0
end Few
section Ops
variable {si : Nat → Int32} {fa : Nat → Nat → Int32} {sm : Nat → Int32} {fm : Nat → Nat → Int32} {N : Nat}
theorem op_moves (hN : 70000 ≤ N) (I : Inv si fa sm fm) (p1 : Int32) : ∃ o o', F_X8_moves N (si 11) (si 12) (si 21) (si 22) (fa 4) (fa 21) (fa 22) (fa 23) (fa 24) (fa 32) (fa 48) (fa 49) (fa 50) (si 30) (si 31) (fa 52) (fa 53) (fa 54) (fa 55) (fa 57) (fa 58) (fa 59) (fa 60) p1 = some o ∧ F_X9_moves N (sm 12) (sm 13) (sm 15) (sm 19) (fm 5) (fm 6) (fm 8) (fm 9) (fm 17) p1 = some o' ∧ o.1 = o'.1 ∧ Inv (upd (upd si 30 o.2.2.2.2.1) 31 o.2.2.2.2.2.1) (va_up (va_up (va_up (va_up (va_up (va_up (va_up (va_up (va_up (va_up (va_up fa 48 o.2.1) 49 o.2.2.1) 50 o.2.2.2.1) 52 o.2.2.2.2.2.2.1) 53 o.2.2.2.2.2.2.2.1) 54 o.2.2.2.2.2.2.2.2.1) 55 o.2.2.2.2.2.2.2.2.2.1) 57 o.2.2.2.2.2.2.2.2.2.2.1) 58 o.2.2.2.2.2.2.2.2.2.2.2.1) 59 o.2.2.2.2.2.2.2.2.2.2.2.2.1) 60 o.2.2.2.2.2.2.2.2.2.2.2.2.2) (upd sm 19 o'.2.1) (va_up (va_up fm 9 o'.2.2.1) 17 o'.2.2.2) := by
  obtain ⟨hTx, hF, n, c, cp, tu, pi, lo, de, fr, to, be, hTr, hEa, hNt, hI⟩ := id I
  obtain ⟨a1, a2, a3, M, T, a6, a7, a8, a9, a10, a11, a12, a13, a14, a15⟩ := id hTr
  have h8 := M.1
  have same : ∀ x30 x31 g48 g49 g50 g52 g53 g54 g55 g57 g58 g59 g60 m19 g9 g17, Inv (upd (upd si 30 x30) 31 x31) (va_up (va_up (va_up (va_up (va_up (va_up (va_up (va_up (va_up (va_up (va_up fa 48 g48) 49 g49) 50 g50) 52 g52) 53 g53) 54 g54) 55 g55) 57 g57) 58 g58) 59 g59) 60 g60) (upd sm 19 m19) (va_up (va_up fm 9 g9) 17 g17) := fun _ _ _ _ _ _ _ _ _ _ _ _ _ _ _ _ => ⟨hTx, hF, n, c, cp, tu, pi, lo, de, fr, to, be, hTr, hEa, hNt, hI⟩
  have R : RwOk n c be (fm 8) := ⟨hNt.2.1, hNt.2.2.1⟩
  obtain ⟨hr, hh, e22, e9⟩ := hNt.2.2.2.2.2
  have e8 := hNt.2.2.2.1
  obtain ⟨many, t, mo, z1, z2⟩ := v_X9_layMoves hN M a1 (fun k hk => ⟨(a14 k hk).2.1, (a14 k hk).2.2.2⟩) R hh e9 (sm 19) (fm 9) (fm 17) (tu := tu)
  obtain ⟨o, y1, y2⟩ := v_X4_fewest hN M hEa.2 a1 (fun k hk => ⟨(a14 k hk).1, (a14 k hk).2.2.2⟩) R hNt.1 hh (fa 48) (fa 49) (fa 50) (si 30) (si 31) (fa 52) (fa 53) (fa 54) (fa 55) (fa 57) (fa 58) (fa 59) (fa 60) (aw := si 21)
  rw [e8] at y2
  obtain ⟨w1, w2⟩ := MvS_one y2 z2
  unfold F_X8_moves F_X9_moves
  rw [a6, a7, a10, a11, a13, e22, bnd_of z1]
  by_cases c1 : p1 = -1
  · subst c1
    rw [if_pos (by decide), bnd_of y1, if_pos rfl, if_pos rfl]
    exact ⟨_, _, rfl, rfl, w1, same _ _ _ _ _ _ _ _ _ _ _ _ _ _ _ _⟩
  by_cases c2 : p1 < 0
  · have c3 : ¬ (-1 : Int32) ≤ p1 := fun e => c1 (by
      apply Int32.toInt_inj.mp
      rw [Int32.le_iff_toInt_le, show (-1 : Int32).toInt = -1 from rfl] at e
      rw [Int32.lt_iff_toInt_lt, show (0 : Int32).toInt = 0 from rfl] at c2
      rw [show (-1 : Int32).toInt = -1 from rfl]
      omega)
    have hin : F_X9_in p1 0 (many - 1) = some 0 := by unfold F_X9_in; rw [if_pos c2]
    rw [if_neg c3, if_neg c1, bnd_of hin, if_pos rfl]
    exact ⟨_, _, rfl, rfl, rfl, same _ _ _ _ _ _ _ _ _ _ _ _ _ _ _ _⟩
  obtain ⟨j, hj, rfl⟩ := nI_of c2
  have c3 : (-1 : Int32) ≤ nI j := by
    rw [Int32.le_iff_toInt_le, nI_toInt (by omega), show (-1 : Int32).toInt = -1 from rfl]
    omega
  rw [if_pos c3, bnd_of y1, if_neg c1, if_neg c1]
  have nin : many - 1 < nI j → F_X9_in (nI j) 0 (many - 1) = some 0 := fun e => by unfold F_X9_in; rw [if_neg c2, if_pos e]
  have yin : ¬ many - 1 < nI j → F_X9_in (nI j) 0 (many - 1) = some 1 := fun e => by unfold F_X9_in; rw [if_neg c2, if_neg e]
  have lt_m : ∀ x : Int32, x < 0 → x < nI j := fun x hx => by
    rw [Int32.lt_iff_toInt_lt, show (0 : Int32).toInt = 0 from rfl] at hx
    rw [Int32.lt_iff_toInt_lt, nI_toInt (by omega)]
    omega
  have fact : (o.1 ≤ nI j ∧ many - 1 < nI j) ∨ (¬ o.1 ≤ nI j ∧ ¬ many - 1 < nI j ∧ j < 2 ∧ o.2.1 j = mo j) := by
    rcases w2 with q | ⟨q, q1⟩ | ⟨q, q1, q2⟩ | q
    · rw [q] at w1
      exact Or.inl ⟨by rw [q]; exact ge0 (Nat.zero_le _) hj, lt_m _ (by rw [← w1]; decide)⟩
    · rw [q] at w1
      by_cases d0 : j = 0
      · subst d0
        exact Or.inr ⟨by rw [q]; decide, by rw [← w1]; decide, by omega, q1⟩
      · exact Or.inl ⟨by rw [q]; exact ge1 (by omega) hj, by rw [← w1]; exact gt0 (by omega) hj⟩
    · rw [q] at w1
      by_cases d0 : j = 0
      · subst d0
        exact Or.inr ⟨by rw [q]; decide, by rw [← w1]; decide, by omega, q1⟩
      · by_cases d1 : j = 1
        · subst d1
          exact Or.inr ⟨by rw [q]; decide, by rw [← w1]; decide, by omega, q2⟩
        · exact Or.inl ⟨by rw [q]; exact ge2 (by omega) hj, by rw [← w1]; exact gt1 (by omega) hj⟩
    · rw [q] at w1
      exact Or.inl ⟨by rw [q]; exact c3, lt_m _ (by rw [← w1]; decide)⟩
  rcases fact with ⟨f1, f2⟩ | ⟨f1, f2, f3, f4⟩
  · rw [if_pos f1, bnd_of (nin f2), if_pos rfl]
    exact ⟨_, _, rfl, rfl, rfl, same _ _ _ _ _ _ _ _ _ _ _ _ _ _ _ _⟩
  · rw [if_neg f1, bnd_of (atI_in f3 (by omega)), bnd_of (yin f2), if_neg (show ¬ (1 : Int32) = 0 by decide), rd_nI f3 (by omega)]
    exact ⟨_, _, rfl, rfl, f4, same _ _ _ _ _ _ _ _ _ _ _ _ _ _ _ _⟩
end Ops

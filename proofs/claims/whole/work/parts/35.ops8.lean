theorem nle99' : ∀ b, b ≤ 8 → ¬ (99 : Int32) ≤ nI b := by decide +kernel
theorem nlem1 : ∀ b, b ≤ 8 → ¬ nI b ≤ (-1 : Int32) := by decide +kernel
section Trial
variable {n c : Nat} {be : Nat → Nat} {tu : Int32} {pi lo de fr to : Nat → Nat} {of lou dep ja sn : Nat → Int32} {N : Nat}
theorem pass_at (hN : 70000 ≤ N) (hc : c ≤ 4) (M : MOk n pi lo de fr to of) (E : EarOk n tu pi lo de fr to lou dep ja sn) {crews row : Nat → Int32} {aw : Int32} {h : Nat} (hh : h < 12) (Nt : NtOk n c be crews row aw (nI h)) :
    ∃ aw' row', F_X0_afterHour N 4 lou dep ja sn crews aw (nI h) = some aw' ∧ F_X9_pass N 10 (nI n) tu of row = some row' ∧ NtOk n c be crews row' aw' (nI (h + 1)) := by
  obtain ⟨b1, b2, b3, b4, b5, x, b6, b7, b8⟩ := id Nt
  have ex : x = h := i_inj (by omega) (by omega) b7.symm
  subst ex
  obtain ⟨r, e1, f1⟩ := cl_afterHour hN M E b1 aw hh
  obtain ⟨w, e2, f2⟩ := v_X9_pass hN M (tu := tu) (m := 10) (by omega) (NtOk_ca hc Nt) hh b8
  have er : row 8 ||| w = r := b_ext (fun i _ => by rw [b_or, f2 i, f1 i, b4])
  refine ⟨r, _, e1, e2, ?_⟩
  rw [er]
  exact NtOk_aw M.1 Nt (fun s hs => by rw [f1 s] at hs; exact stG_lt b5 hs) (by omega)
theorem shunt_both (hN : 70000 ≤ N) (hc : c ≤ 4) (M : MOk n pi lo de fr to of) (E : EarOk n tu pi lo de fr to lou dep ja sn) (g : Nat → Int32) (sa sh : Int32) {crews : Nat → Int32} (p1 : Int32) : ∀ (q f h : Nat) (aw : Int32) (row : Nat → Int32), h + q = 12 → q < f → NtOk n c be crews row aw (nI h) →
    ∃ r t, F_X8_shunted_28 N (nI c) (nI n) sa sh lou dep ja sn crews p1 f aw (nI h) = some r ∧ F_X9_shunted_25 N (nI c) (nI n) tu of g p1 f row = some (r, t) := by
  have h8 := M.1
  intro q
  induction q with
  | zero =>
    intro f h aw row hi hf Nt
    obtain ⟨_, _, _, _, _, y, y1, y2, y3⟩ := id Nt
    obtain ⟨f', rfl⟩ : ∃ g, f = g + 1 := ⟨f - 1, by omega⟩
    have e1 : h = 12 := by omega
    subst e1
    refine ⟨-1, row, ?_, ?_⟩
    · show B_X8_shunted_28 N (nI c) (nI n) sa sh lou dep ja sn crews p1 (F_X8_shunted_28 N (nI c) (nI n) sa sh lou dep ja sn crews p1 f') aw (nI 12) = _
      unfold B_X8_shunted_28
      rw [if_pos (ge12 (Nat.le_refl _) (by omega))]
    · show B_X9_shunted_25 N (nI c) (nI n) tu of g p1 (F_X9_shunted_25 N (nI c) (nI n) tu of g p1 f') row = _
      unfold B_X9_shunted_25
      rw [show (9 : Int32) = nI 9 from rfl, rd_nI (by omega) (by omega), y3, ← y2, if_pos (ge12 (Nat.le_refl _) (by omega))]
  | succ q ih =>
    intro f h aw row hi hf Nt
    obtain ⟨b1, b2, b3, b4, b5, y, y1, y2, y3⟩ := id Nt
    have ey : y = h := i_inj (by omega) (by omega) y2.symm
    subst ey
    obtain ⟨f', rfl⟩ : ∃ g, f = g + 1 := ⟨f - 1, by omega⟩
    have key : ∀ m f2 i, i + m = c → m < f2 → ∃ r t, F_X8_shunted_37 N (nI c) (nI n) sa sh lou dep ja sn crews p1 (F_X8_shunted_28 N (nI c) (nI n) sa sh lou dep ja sn crews p1 f') f2 aw (nI y) (nI i) = some r ∧ F_X9_shunted_39 N (nI c) (nI n) tu of g p1 (F_X9_shunted_25 N (nI c) (nI n) tu of g p1 f') f2 row (nI i) = some (r, t) := by
      intro m
      induction m with
      | zero =>
        intro f2 i hi2 hf2
        obtain ⟨g2, rfl⟩ : ∃ g, f2 = g + 1 := ⟨f2 - 1, by omega⟩
        have e1 : i = c := by omega
        subst e1
        obtain ⟨aw', row', z1, z2, z3⟩ := pass_at hN hc M E (by omega) Nt
        obtain ⟨r, t, w1, w2⟩ := ih f' (y + 1) aw' row' (by omega) (by omega) z3
        refine ⟨r, t, ?_, ?_⟩
        · show B_X8_shunted_37 N (nI i) (nI n) sa sh lou dep ja sn crews p1 (F_X8_shunted_28 N (nI i) (nI n) sa sh lou dep ja sn crews p1 f') (F_X8_shunted_37 N (nI i) (nI n) sa sh lou dep ja sn crews p1 (F_X8_shunted_28 N (nI i) (nI n) sa sh lou dep ja sn crews p1 f') g2) aw (nI y) (nI i) = _
          unfold B_X8_shunted_37
          rw [if_pos (i_le (Nat.le_refl _) (by omega)), bnd_of z1, nm_def, i_s]
          exact w1
        · show B_X9_shunted_39 N (nI i) (nI n) tu of g p1 (F_X9_shunted_25 N (nI i) (nI n) tu of g p1 f') (F_X9_shunted_39 N (nI i) (nI n) tu of g p1 (F_X9_shunted_25 N (nI i) (nI n) tu of g p1 f') g2) row (nI i) = _
          unfold B_X9_shunted_39
          rw [if_pos (i_le (Nat.le_refl _) (by omega)), bnd_of z2]
          exact w2
      | succ m ih2 =>
        intro f2 i hi2 hf2
        obtain ⟨g2, rfl⟩ : ∃ g, f2 = g + 1 := ⟨f2 - 1, by omega⟩
        obtain ⟨r, t, w1, w2⟩ := ih2 g2 (i + 1) (by omega) (by omega)
        have ho : outT n (jarT tu pi) (bt ((crews i &&& (aw ^^^ (-1))) &&& sn y)) = outT n (jarT tu pi) (fun s => innM n row i s && (!bt (row 8) s && liveT n fr to y s)) := outT_congr (fun t ht => by
          rw [b4]
          exact snor_bits E b1 _ (by omega) (by omega) t (by omega))
        have u1 : F_X8_shunted_37 N (nI c) (nI n) sa sh lou dep ja sn crews p1 (F_X8_shunted_28 N (nI c) (nI n) sa sh lou dep ja sn crews p1 f') (g2 + 1) aw (nI y) (nI i) = if b2i (outT n (jarT tu pi) (fun s => innM n row i s && (!bt (row 8) s && liveT n fr to y s))) = 0 then F_X8_shunted_37 N (nI c) (nI n) sa sh lou dep ja sn crews p1 (F_X8_shunted_28 N (nI c) (nI n) sa sh lou dep ja sn crews p1 f') g2 aw (nI y) (nI (i + 1)) else if p1 = 0 then some (nI y) else some (nI i) := by
          show B_X8_shunted_37 N (nI c) (nI n) sa sh lou dep ja sn crews p1 (F_X8_shunted_28 N (nI c) (nI n) sa sh lou dep ja sn crews p1 f') (F_X8_shunted_37 N (nI c) (nI n) sa sh lou dep ja sn crews p1 (F_X8_shunted_28 N (nI c) (nI n) sa sh lou dep ja sn crews p1 f') g2) aw (nI y) (nI i) = _
          unfold B_X8_shunted_37
          rw [if_neg (i_nle (by omega) (by omega)), bnd_of (atI_in (by omega) (by omega)), bnd_of (v_X0_snorers (by omega)), bnd_of (v_X0_isOutOfTune hN h8 E _), ho, nm_def, i_s]
        have u2 : F_X9_shunted_39 N (nI c) (nI n) tu of g p1 (F_X9_shunted_25 N (nI c) (nI n) tu of g p1 f') (g2 + 1) row (nI i) = if b2i (outT n (jarT tu pi) (fun s => innM n row i s && (!bt (row 8) s && liveT n fr to y s))) = 0 then F_X9_shunted_39 N (nI c) (nI n) tu of g p1 (F_X9_shunted_25 N (nI c) (nI n) tu of g p1 f') g2 row (nI (i + 1)) else if p1 = 0 then some (nI y, row) else some (nI i, row) := by
          show B_X9_shunted_39 N (nI c) (nI n) tu of g p1 (F_X9_shunted_25 N (nI c) (nI n) tu of g p1 f') (F_X9_shunted_39 N (nI c) (nI n) tu of g p1 (F_X9_shunted_25 N (nI c) (nI n) tu of g p1 f') g2) row (nI i) = _
          unfold B_X9_shunted_39
          rw [if_neg (i_nle (by omega) (by omega)), show (9 : Int32) = nI 9 from rfl, rd_nI (by omega) (by omega), y3, bnd_of (v_X9_isOut hN M (m := 10) (by omega) (by omega) (by omega)), nm_def, i_s, rd_nI (by omega) (by omega), y3]
        rw [u1, u2]
        cases outT n (jarT tu pi) (fun s => innM n row i s && (!bt (row 8) s && liveT n fr to y s)) with
        | false =>
          rw [if_pos (show b2i false = 0 from rfl), if_pos (show b2i false = 0 from rfl)]
          exact ⟨r, t, w1, w2⟩
        | true =>
          rw [if_neg (show ¬ b2i true = 0 by decide), if_neg (show ¬ b2i true = 0 by decide)]
          by_cases z : p1 = 0
          · rw [if_pos z, if_pos z]
            exact ⟨_, _, rfl, rfl⟩
          · rw [if_neg z, if_neg z]
            exact ⟨_, _, rfl, rfl⟩
    obtain ⟨r, t, w1, w2⟩ := key c N 0 (by omega) (by omega)
    refine ⟨r, t, ?_, ?_⟩
    · show B_X8_shunted_28 N (nI c) (nI n) sa sh lou dep ja sn crews p1 (F_X8_shunted_28 N (nI c) (nI n) sa sh lou dep ja sn crews p1 f') aw (nI y) = _
      unfold B_X8_shunted_28
      rw [if_neg (nge12 (by omega))]
      exact w1
    · show B_X9_shunted_25 N (nI c) (nI n) tu of g p1 (F_X9_shunted_25 N (nI c) (nI n) tu of g p1 f') row = _
      unfold B_X9_shunted_25
      rw [show (9 : Int32) = nI 9 from rfl, rd_nI (by omega) (by omega), y3, if_neg (nge12 (by omega))]
      exact w2
/-! one more in a car: the same morning on both sides -/
theorem tried_both (hN : 70000 ≤ N) (M : MOk n pi lo de fr to of) (E : EarOk n tu pi lo de fr to lou dep ja sn) {row crews : Nat → Int32} (hc : Cr n row crews) (hca : CaOk n row) (tc tr : Nat → Int32) {s k : Nat} (hs : s < n) (hk : k < 4) :
    ∃ (r : Int32) (t : Nat → Int32) (b : Nat), F_X0_morning N 4 lou dep ja sn (va_cpy (leadC (va_cpy crews tc 0 0 4) s (nI k)) (va_cpy crews tc 0 0 4) 0 0 4) 0 0 = some r ∧ F_X9_morning N (nI n) tu of (upd (upd (upd (va_cpy row tr 0 0 10) 8 0) 9 0) s (nI k)) = some (r, t) ∧ b ≤ 8 ∧ F_J6_bitCount_0f7a4 r = some (nI b) ∧ F_X9_bits N r = some (nI b) := by
  have h8 := M.1
  have hc2 : Cr n row (va_cpy crews tc 0 0 4) := fun k hk t => by rw [cpy_in0 hk]; exact hc k hk t
  have hc3 := Cr_lead h8 hc2 hs (nI k)
  have hca3 : CaOk n (upd row s (nI k)) := fun t ht => by
    by_cases e : t = s
    · subst e
      rw [pk_us]
      exact Or.inr ⟨k, hk, rfl⟩
    · rw [pk_un e]
      exact hca t ht
  have ht8 : (upd (upd (upd (va_cpy row tr 0 0 10) 8 0) 9 0) s (nI k)) 8 = 0 := by rw [pk_un (by omega), pk_un (by omega), pk_us]
  obtain ⟨r, t, e1, e2, e3⟩ := mo_both hN M E (tr := upd (upd (upd (va_cpy row tr 0 0 10) 8 0) 9 0) s (nI k)) (h := 0) hc3 hca3 (fun t ht => by
    by_cases e : t = s
    · subst e
      rw [pk_us, pk_us]
    · rw [pk_un e, pk_un e, pk_un (by omega), pk_un (by omega), cpy_in0 (by omega)]) (by omega) (by rw [pk_un (by omega), pk_us]; rfl)
  rw [ht8] at e1 e3
  have hsm : ∀ i, 8 ≤ i → bt r i = false := fun i hi => by
    rw [e3 i, moG_out _ (fun k hk => by rw [innM, decide_eq_false (fun w => by omega)]), b_0]
  exact ⟨r, t, _, e1, e2, cnt_le 8, v_J6_bitCount hsm, v_X9_bits hN r⟩
end Trial
section Ops
variable {si : Nat → Int32} {fa : Nat → Nat → Int32} {sm : Nat → Int32} {fm : Nat → Nat → Int32} {N : Nat}
theorem op_shunted (hN : 70000 ≤ N) (I : Inv si fa sm fm) (p1 : Int32) : ∃ r t, F_X8_shunted N (si 11) (si 19) (si 21) (si 22) (fa 21) (fa 22) (fa 23) (fa 24) (fa 32) p1 = some r ∧ F_X9_shunted N (sm 12) (sm 13) (sm 15) (fm 6) (fm 8) (fm 9) p1 = some (r, t) := by
  obtain ⟨hTx, hF, n, c, cp, tu, pi, lo, de, fr, to, be, ⟨a1, a2, a3, M, T, a6, a7, a8, a9, a10, a11, a12, a13, a14, a15⟩, hEa, hNt, hI⟩ := id I
  obtain ⟨b1, b2, b3, b4, b5, h, hh, b6, b7⟩ := id hNt
  have h8 := M.1
  unfold F_X8_shunted F_X9_shunted
  rw [a6, a10, a11, a13, hEa.1]
  rcases in_cases p1 (m := 1) (by omega) with ⟨q1, q2⟩ | ⟨j, j1, j2, rfl, q1, q2⟩ | ⟨j, j1, rfl, q1, q2⟩
  · have q2 : F_X9_in p1 0 1 = some 0 := q2
    rw [if_pos q1, bnd_of q2, if_pos rfl]
    exact ⟨_, _, rfl, rfl⟩
  · have q2 : F_X9_in (nI j) 0 1 = some 0 := q2
    rw [if_neg q1, if_neg (nle1 j1 j2), bnd_of q2, if_pos rfl]
    exact ⟨_, _, rfl, rfl⟩
  have q2 : F_X9_in (nI j) 0 1 = some 1 := q2
  have hcp : F_X9_copy N 10 10 (fm 8) (fm 9) 0 0 = some (va_cpy (fm 8) (fm 9) 0 0 10) := v_X9_copy hN (f := 0) (t := 0) (by omega) (by omega) (by omega) (by omega)
  rw [if_neg q1, if_pos (le1 j1), bnd_of q2, if_neg (show ¬ (1 : Int32) = 0 by decide), bnd_of hcp]
  have hNt2 : NtOk n c be (fa 32) (va_cpy (fm 8) (fm 9) 0 0 10) (si 21) (nI h) := NtOk_congr h8 hNt (fun k hk => rfl) (fun s hs => cpy_in0 hs) rfl b6.symm
  obtain ⟨r, t, w1, w2⟩ := shunt_both hN a1 M hEa.2 (fm 8) (si 21) (si 22) (nI j) (12 - h) N h (si 21) _ (by omega) (by omega) hNt2
  rw [← b6] at w1
  exact ⟨r, t, w1, w2⟩
theorem op_bestCar (hN : 70000 ≤ N) (I : Inv si fa sm fm) (p1 p2 : Int32) : ∃ r t1 t, F_X8_bestCar N (si 11) (si 12) (fa 4) (fa 21) (fa 22) (fa 23) (fa 24) (fa 32) (fa 34) p1 p2 = some (r, t1) ∧ F_X9_bestCar N (sm 12) (sm 13) (sm 15) (fm 5) (fm 6) (fm 8) (fm 9) p1 p2 = some (r, t) := by
  obtain ⟨hTx, hF, n, c, cp, tu, pi, lo, de, fr, to, be, ⟨a1, a2, a3, M, T, a6, a7, a8, a9, a10, a11, a12, a13, a14, a15⟩, hEa, hNt, hI⟩ := id I
  obtain ⟨b1, b2, b3, b4, b5, h, hh, b6, b7⟩ := id hNt
  have h8 := M.1
  have hca := NtOk_ca a1 hNt
  unfold F_X8_bestCar F_X9_bestCar
  rw [a6, a7, a10, a11, a13]
  rcases no_one (c := n) (by omega) p1 with ⟨e1, e2⟩ | ⟨s, hs, rfl, e1, e2⟩
  · rw [bnd_of e1, bnd_of e2, if_neg (show ¬ (1 : Int32) = 0 by decide), if_pos (show (0 : Int32) = 0 from rfl)]
    exact ⟨_, _, _, rfl, rfl⟩
  rw [bnd_of e1, bnd_of e2, if_neg (show ¬ (1 : Int32) = 0 by decide), if_pos (show (0 : Int32) = 0 from rfl)]
  rcases in_cases p2 (m := 1) (by omega) with ⟨q1, q2⟩ | ⟨j, j1, j2, rfl, q1, q2⟩ | ⟨j, j1, rfl, q1, q2⟩
  · have q2 : F_X9_in p2 0 1 = some 0 := q2
    rw [if_pos q1, bnd_of q2, if_pos rfl]
    exact ⟨_, _, _, rfl, rfl⟩
  · have q2 : F_X9_in (nI j) 0 1 = some 0 := q2
    rw [if_neg q1, if_neg (nle1 j1 j2), bnd_of q2, if_pos rfl]
    exact ⟨_, _, _, rfl, rfl⟩
  have q2 : F_X9_in (nI j) 0 1 = some 1 := q2
  rw [if_neg q1, if_pos (le1 j1), bnd_of q2, if_neg (show ¬ (1 : Int32) = 0 by decide), bnd_of (v_X8_carOf hN h8 b1 hca hs)]
  have key : ∀ m f i tc tr x4 x5 x6 y3 y4 y5, i + m = c → m < f → ((x4 = -1 ∧ x5 = 0 ∧ x6 = 0 ∧ y3 = -1 ∧ y4 = 99 ∧ y5 = -1) ∨ ∃ b u v, b < 4 ∧ u ≤ v ∧ v ≤ 8 ∧ x4 = nI b ∧ x5 = nI u ∧ x6 = nI v ∧ y3 = nI b ∧ y4 = nI u ∧ y5 = nI v) →
      ∃ r t1 t, F_X8_bestCar_47 N (nI c) (nI n) (fa 4) (fa 21) (fa 22) (fa 23) (fa 24) (fa 32) (nI s) (nI j) f tc (fm 8 s) x4 x5 x6 (nI i) = some (r, t1) ∧ F_X9_bestCar_35 N (nI c) (nI n) tu (fm 5) (fm 6) (fm 8) (nI s) (nI j) f tr y3 y4 y5 (nI i) = some (r, t) := by
    intro m
    induction m with
    | zero =>
      intro f i tc tr x4 x5 x6 y3 y4 y5 hi hf hx
      obtain ⟨g, rfl⟩ : ∃ g, f = g + 1 := ⟨f - 1, by omega⟩
      have e1 : i = c := by omega
      subst e1
      have u1 : F_X8_bestCar_47 N (nI i) (nI n) (fa 4) (fa 21) (fa 22) (fa 23) (fa 24) (fa 32) (nI s) (nI j) (g + 1) tc (fm 8 s) x4 x5 x6 (nI i) = if nI j = 0 then some (x4, tc) else if x4 = -1 then some (x4, tc) else some (x6 - x5, tc) := by
        show B_X8_bestCar_47 N (nI i) (nI n) (fa 4) (fa 21) (fa 22) (fa 23) (fa 24) (fa 32) (nI s) (nI j) (F_X8_bestCar_47 N (nI i) (nI n) (fa 4) (fa 21) (fa 22) (fa 23) (fa 24) (fa 32) (nI s) (nI j) g) tc (fm 8 s) x4 x5 x6 (nI i) = _
        unfold B_X8_bestCar_47
        rw [if_pos (i_le (Nat.le_refl _) (by omega))]
      have u2 : F_X9_bestCar_35 N (nI i) (nI n) tu (fm 5) (fm 6) (fm 8) (nI s) (nI j) (g + 1) tr y3 y4 y5 (nI i) = if 0 ≤ y3 then if nI j = 0 then some (y3, tr) else some (y5 - y4, tr) else some (-1, tr) := by
        show B_X9_bestCar_35 N (nI i) (nI n) tu (fm 5) (fm 6) (fm 8) (nI s) (nI j) (F_X9_bestCar_35 N (nI i) (nI n) tu (fm 5) (fm 6) (fm 8) (nI s) (nI j) g) tr y3 y4 y5 (nI i) = _
        unfold B_X9_bestCar_35
        rw [if_pos (i_le (Nat.le_refl _) (by omega))]
      rw [u1, u2]
      rcases hx with ⟨rfl, rfl, rfl, rfl, rfl, rfl⟩ | ⟨b, u, v, w1, w2, w3, rfl, rfl, rfl, rfl, rfl, rfl⟩
      · rw [if_neg (show ¬ (0 : Int32) ≤ -1 by decide), if_pos (show (-1 : Int32) = -1 from rfl)]
        by_cases z : nI j = 0
        · rw [if_pos z]; exact ⟨_, _, _, rfl, rfl⟩
        · rw [if_neg z]; exact ⟨_, _, _, rfl, rfl⟩
      · rw [if_pos (ge0 (i := b) (Nat.zero_le _) (by omega)), if_neg (i_m1 (by omega))]
        by_cases z : nI j = 0
        · rw [if_pos z, if_pos z]; exact ⟨_, _, _, rfl, rfl⟩
        · rw [if_neg z, if_neg z]; exact ⟨_, _, _, rfl, rfl⟩
    | succ m ih =>
      intro f i tc tr x4 x5 x6 y3 y4 y5 hi hf hx
      obtain ⟨g, rfl⟩ : ∃ g, f = g + 1 := ⟨f - 1, by omega⟩
      have try1 : ∃ r t1 t, B_X8_bestCar_84 N (nI c) (nI n) (fa 4) (fa 21) (fa 22) (fa 23) (fa 24) (fa 32) (nI s) (nI j) (F_X8_bestCar_47 N (nI c) (nI n) (fa 4) (fa 21) (fa 22) (fa 23) (fa 24) (fa 32) (nI s) (nI j) g) tc (fm 8 s) x4 x5 x6 (nI i) = some (r, t1) ∧ B_X9_bestCar_78 N (nI c) (nI n) tu (fm 5) (fm 6) (fm 8) (nI s) (nI j) (F_X9_bestCar_35 N (nI c) (nI n) tu (fm 5) (fm 6) (fm 8) (nI s) (nI j) g) tr y3 y4 y5 (nI i) = some (r, t) := by
        obtain ⟨r, t, b, z1, z2, z3, z4, z5⟩ := tried_both hN M hEa.2 b1 hca tc tr hs (show i < 4 by omega)
        unfold B_X8_bestCar_84 B_X9_bestCar_78
        rw [bnd_of (v_X2_lieAs hN tc (fa 32)), bnd_of (v_X2_lead hN _ (by omega) _), bnd_of z1, bnd_of z4, bnd_of (v_X9_begin hN (fm 8) tr), wr_nI (by omega) (by omega), bnd_of z2, bnd_of z5, nm_def, nm_def, i_s]
        unfold B_X9_bestCar_112 B_X9_bestCar_127
        rw [nm_def, nm_def, i_s]
        rcases hx with ⟨rfl, rfl, rfl, rfl, rfl, rfl⟩ | ⟨d, u, v, w1, w2, w3, rfl, rfl, rfl, rfl, rfl, rfl⟩
        · rw [if_pos (show (-1 : Int32) = -1 from rfl), if_neg (nle99' b z3), if_neg (nle99' b z3), if_neg (nlem1 b z3)]
          have hmx : (if (0 : Int32) < nI b then nI b else 0) = nI b := by
            by_cases q : (0 : Int32) < nI b
            · exact if_pos q
            · rw [if_neg q]
              rcases Nat.eq_zero_or_pos b with e | e
              · rw [e]; rfl
              · exact absurd (gt0 e (by omega)) q
          rw [hmx]
          exact ih g (i + 1) _ _ _ _ _ _ _ _ (by omega) (by omega) (Or.inr ⟨i, b, b, by omega, Nat.le_refl _, z3, rfl, rfl, rfl, rfl, rfl, rfl⟩)
        · rw [if_neg (i_m1 (by omega))]
          have hmx : (if nI v < nI b then nI b else nI v) = nI (max v b) := by
            by_cases q : v < b
            · rw [if_pos (i_lt q (by omega)), Nat.max_eq_right (by omega)]
            · rw [if_neg (i_nlt (by omega) (by omega)), Nat.max_eq_left (by omega)]
          rw [hmx]
          have hmx2 : ∀ (A B : Int32) (t : Nat → Int32), (if nI b ≤ nI v then F_X9_bestCar_35 N (nI c) (nI n) tu (fm 5) (fm 6) (fm 8) (nI s) (nI j) g t A B (nI v) (nI (i + 1)) else F_X9_bestCar_35 N (nI c) (nI n) tu (fm 5) (fm 6) (fm 8) (nI s) (nI j) g t A B (nI b) (nI (i + 1))) = F_X9_bestCar_35 N (nI c) (nI n) tu (fm 5) (fm 6) (fm 8) (nI s) (nI j) g t A B (nI (max v b)) (nI (i + 1)) := fun A B t => by
            by_cases q : v < b
            · rw [if_neg (i_nle q (by omega)), Nat.max_eq_right (by omega)]
            · rw [if_pos (i_le (by omega) (by omega)), Nat.max_eq_left (by omega)]
          by_cases q : u ≤ b
          · rw [if_pos (i_le q (by omega)), if_pos (i_le q (by omega)), if_pos (i_le q (by omega))]
            simp only [nm_def]
            rw [hmx2]
            exact ih g (i + 1) _ _ _ _ _ _ _ _ (by omega) (by omega) (Or.inr ⟨d, u, max v b, w1, by omega, by omega, rfl, rfl, rfl, rfl, rfl, rfl⟩)
          · rw [if_neg (i_nle (by omega) (by omega)), if_neg (i_nle (by omega) (by omega)), if_neg (i_nle (by omega) (by omega))]
            simp only [nm_def]
            rw [hmx2]
            exact ih g (i + 1) _ _ _ _ _ _ _ _ (by omega) (by omega) (Or.inr ⟨i, b, max v b, by omega, by omega, by omega, rfl, rfl, rfl, rfl, rfl, rfl⟩)
      have hbk := a14 i (by omega)
      have hbc := b3 i (by omega)
      have hcn := cnt_le (p := innM n (fm 8) i) 8
      have u1 : F_X8_bestCar_47 N (nI c) (nI n) (fa 4) (fa 21) (fa 22) (fa 23) (fa 24) (fa 32) (nI s) (nI j) (g + 1) tc (fm 8 s) x4 x5 x6 (nI i) = if nI i = fm 8 s then B_X8_bestCar_84 N (nI c) (nI n) (fa 4) (fa 21) (fa 22) (fa 23) (fa 24) (fa 32) (nI s) (nI j) (F_X8_bestCar_47 N (nI c) (nI n) (fa 4) (fa 21) (fa 22) (fa 23) (fa 24) (fa 32) (nI s) (nI j) g) tc (fm 8 s) x4 x5 x6 (nI i) else if b2i (decide (be i ≤ cnt (innM n (fm 8) i) 8)) = 0 then B_X8_bestCar_84 N (nI c) (nI n) (fa 4) (fa 21) (fa 22) (fa 23) (fa 24) (fa 32) (nI s) (nI j) (F_X8_bestCar_47 N (nI c) (nI n) (fa 4) (fa 21) (fa 22) (fa 23) (fa 24) (fa 32) (nI s) (nI j) g) tc (fm 8 s) x4 x5 x6 (nI i) else F_X8_bestCar_47 N (nI c) (nI n) (fa 4) (fa 21) (fa 22) (fa 23) (fa 24) (fa 32) (nI s) (nI j) g tc (fm 8 s) x4 x5 x6 (nI (i + 1)) := by
        show B_X8_bestCar_47 N (nI c) (nI n) (fa 4) (fa 21) (fa 22) (fa 23) (fa 24) (fa 32) (nI s) (nI j) (F_X8_bestCar_47 N (nI c) (nI n) (fa 4) (fa 21) (fa 22) (fa 23) (fa 24) (fa 32) (nI s) (nI j) g) tc (fm 8 s) x4 x5 x6 (nI i) = _
        unfold B_X8_bestCar_47
        rw [if_neg (i_nle (by omega) (by omega)), bnd_of (v_X8_isFull h8 b1 (by omega) hbk.1 hbk.2.2.2), nm_def, i_s]
      have u2 : F_X9_bestCar_35 N (nI c) (nI n) tu (fm 5) (fm 6) (fm 8) (nI s) (nI j) (g + 1) tr y3 y4 y5 (nI i) = if fm 8 s = nI i then B_X9_bestCar_78 N (nI c) (nI n) tu (fm 5) (fm 6) (fm 8) (nI s) (nI j) (F_X9_bestCar_35 N (nI c) (nI n) tu (fm 5) (fm 6) (fm 8) (nI s) (nI j) g) tr y3 y4 y5 (nI i) else if nI (be i) ≤ nI (cnt (innM n (fm 8) i) 8) then F_X9_bestCar_35 N (nI c) (nI n) tu (fm 5) (fm 6) (fm 8) (nI s) (nI j) g tr y3 y4 y5 (nI (i + 1)) else B_X9_bestCar_78 N (nI c) (nI n) tu (fm 5) (fm 6) (fm 8) (nI s) (nI j) (F_X9_bestCar_35 N (nI c) (nI n) tu (fm 5) (fm 6) (fm 8) (nI s) (nI j) g) tr y3 y4 y5 (nI i) := by
        show B_X9_bestCar_35 N (nI c) (nI n) tu (fm 5) (fm 6) (fm 8) (nI s) (nI j) (F_X9_bestCar_35 N (nI c) (nI n) tu (fm 5) (fm 6) (fm 8) (nI s) (nI j) g) tr y3 y4 y5 (nI i) = _
        unfold B_X9_bestCar_35
        rw [if_neg (i_nle (by omega) (by omega)), rd_nI (by omega) (by omega), bnd_of (v_X9_thereIn hN (m := 10) (by omega) h8 (fm 8) (nI i)), ← ls_max h8 b1 (by omega : i < 4), bnd_of (v_X9_bits hN _), Cr_bt b1 (by omega : i < 4), rd_nI (by omega) (by omega), hbk.2.1, nm_def, i_s]
      rw [u1, u2]
      by_cases q : fm 8 s = nI i
      · rw [if_pos q, if_pos q.symm]
        exact try1
      · rw [if_neg q, if_neg (fun e => q e.symm)]
        by_cases w : be i ≤ cnt (innM n (fm 8) i) 8
        · rw [decide_eq_true w, if_neg (show ¬ b2i true = 0 by decide), if_pos (i_le w (by omega))]
          exact ih g (i + 1) _ _ _ _ _ _ _ _ (by omega) (by omega) hx
        · rw [decide_eq_false w, if_pos (show b2i false = 0 from rfl), if_neg (i_nle (by omega) (by omega))]
          exact try1
  exact key c N 0 (fa 34) (fm 9) _ _ _ _ _ _ (by omega) (by omega) (Or.inl ⟨rfl, rfl, rfl, rfl, rfl, rfl⟩)
end Ops

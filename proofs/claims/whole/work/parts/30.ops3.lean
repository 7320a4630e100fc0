section Pass
variable {n c : Nat} {be : Nat → Nat} {tu : Int32} {pi lo de fr to : Nat → Nat} {of lou dep ja sn : Nat → Int32}
theorem NtOk_aw (h8 : n ≤ 8) {crews row : Nat → Int32} {aw hr : Int32} (h : NtOk n c be crews row aw hr) {w : Int32} (hw : ∀ s, bt w s = true → s < n) {x : Nat} (hx : x ≤ 12) : NtOk n c be crews (upd (upd row 8 w) 9 (nI x)) w (nI x) := by
  obtain ⟨b1, b2, b3, b4, b5, b6⟩ := h
  have hr : ∀ s, s < n → upd (upd row 8 w) 9 (nI x) s = row s := fun s hs => by rw [pk_un (by omega), pk_un (by omega)]
  refine ⟨fun k hk s => by rw [innM_congr hr]; exact b1 k hk s, fun s hs => by rw [hr s hs]; exact b2 s hs, fun k hk => by rw [innM_congr hr]; exact b3 k hk, by rw [pk_un (by omega), pk_us], hw, x, hx, rfl, pk_us⟩
theorem stG_lt {jar : Nat → Nat → Bool} {lo de : Nat → Int32} {live : Nat → Nat → Bool} {row : Nat → Int32} {aw : Nat → Bool} {h s : Nat} (ha : ∀ s, aw s = true → s < n) (q : stG jar lo de live (innM n row) aw h s = true) : s < n := by
  rw [stG, Bool.or_eq_true] at q
  rcases q with q | q
  · exact ha s q
  · obtain ⟨k, _, w⟩ := anyN_iff.mp q
    exact (of_decide_eq_true ((Bool.and_eq_true _ _).mp w).1).1
theorem pass_step {N : Nat} (hN : 70000 ≤ N) (hc : c ≤ 4) (M : MOk n pi lo de fr to of) (E : EarOk n tu pi lo de fr to lou dep ja sn) {crews row : Nat → Int32} {aw : Int32} {h : Nat} (hh : h < 12) (Nt : NtOk n c be crews row aw (nI h)) :
    ∃ aw' row', F_X8_passAnHour N aw (nI h) lou dep ja sn crews = some (aw', nI (h + 1)) ∧ F_X9_pass N 10 (nI n) tu of row = some row' ∧ NtOk n c be crews row' aw' (nI (h + 1)) := by
  obtain ⟨b1, b2, b3, b4, b5, x, b6, b7, b8⟩ := id Nt
  have ex : x = h := i_inj (by omega) (by omega) b7.symm
  subst ex
  obtain ⟨r, e1, f1⟩ := cl_afterHour hN M E b1 aw hh
  obtain ⟨w, e2, f2⟩ := v_X9_pass hN M (tu := tu) (m := 10) (by omega) (NtOk_ca hc Nt) hh b8
  have er : row 8 ||| w = r := b_ext (fun i _ => by rw [b_or, f2 i, f1 i, b4])
  refine ⟨r, _, ?_, e2, ?_⟩
  · unfold F_X8_passAnHour
    rw [bnd_of e1, nm_def, i_s]
  · rw [er]
    exact NtOk_aw M.1 Nt (fun s hs => by rw [f1 s] at hs; exact stG_lt b5 hs) (by omega)
theorem in_1_12 (p : Int32) : (p < 1 ∧ F_X9_in p 1 12 = some 0) ∨ (¬ p < 1 ∧ ¬ p ≤ 12 ∧ F_X9_in p 1 12 = some 0) ∨ ∃ j, 1 ≤ j ∧ j ≤ 12 ∧ p = nI j ∧ ¬ p < 1 ∧ p ≤ 12 ∧ F_X9_in p 1 12 = some 1 := by
  unfold F_X9_in
  by_cases h : p < 1
  · exact Or.inl ⟨h, if_pos h⟩
  · have h0 : ¬ p < 0 := fun e => h (by rw [Int32.lt_iff_toInt_lt] at e ⊢; have e1 : (0 : Int32).toInt = 0 := rfl; have e2 : (1 : Int32).toInt = 1 := rfl; omega)
    obtain ⟨j, hj, rfl⟩ := nI_of h0
    have h1 : 1 ≤ j := by
      rcases Nat.lt_or_ge j 1 with q | q
      · exact absurd (lt1 q) h
      · exact q
    rcases Nat.lt_or_ge 12 j with q | q
    · exact Or.inr (Or.inl ⟨h, nle12 q hj, by rw [if_neg h, if_pos (gt12 q hj)]⟩)
    · exact Or.inr (Or.inr ⟨j, h1, q, rfl, h, le12 q, by rw [if_neg h, if_neg (ngt12 q)]⟩)
end Pass
section Ops
variable {si : Nat → Int32} {fa : Nat → Nat → Int32} {sm : Nat → Int32} {fm : Nat → Nat → Int32} {N : Nat}
theorem op_evening (hN : 70000 ≤ N) (I : Inv si fa sm fm) : ∃ r x1 x2 x21 x22 f36 m16 g8 g10, F_X8_evening N 140 (si 1) (si 2) (si 11) (si 21) (si 22) (si 23) (fa 32) (fa 36) = some (r, x1, x2, x21, x22, f36) ∧ F_X9_evening N (sm 12) (sm 16) (fm 8) (fm 10) = some (r, m16, g8, g10) ∧ Inv (upd (upd (upd (upd si 1 x1) 2 x2) 21 x21) 22 x22) (va_up fa 36 f36) (upd sm 16 m16) (va_up (va_up fm 8 g8) 10 g10) := by
  obtain ⟨hTx, hF, n, c, cp, tu, pi, lo, de, fr, to, be, hTr, hEa, hNt, hSd, hUn, hIm, hBo, hMk⟩ := id I
  obtain ⟨a1, a2, a3, M, T, a6, a7, a8, a9, a10, a11, a12, a13, a14, a15⟩ := id hTr
  have h8 := M.1
  unfold F_X8_evening F_X9_evening
  rw [a6, a10]
  by_cases q : nI c = 0
  · rw [if_pos q, if_pos q]
    exact ⟨_, _, _, _, _, _, _, _, _, rfl, rfl, hTx, hF, n, c, cp, tu, pi, lo, de, fr, to, be, hTr, hEa, hNt, hSd, hUn, hIm, hBo, hMk⟩
  · obtain ⟨x1, x2, cells', m', rows', f1, f2, hU⟩ := un_step hN h8 hUn hNt (si 23)
    have hsm : ∀ i, 8 ≤ i → bt (si 21) i = false := fun i hi => by
      cases e : bt (si 21) i with
      | false => rfl
      | true => have := hNt.2.2.2.2.1 i e; omega
    rw [if_neg q, if_neg q, bnd_of f1, bnd_of f2, bnd_of (v_J6_bitCount hsm), show (8 : Int32) = nI 8 from rfl, show (9 : Int32) = nI 9 from rfl, rd_nI (by omega) (by omega), ← hNt.2.2.2.1, bnd_of (v_X9_bits hN _), wr_nI (by omega) (by omega), wr_nI (by omega) (by omega)]
    exact ⟨_, _, _, _, _, _, _, _, _, rfl, rfl, hTx, hF, n, c, cp, tu, pi, lo, de, fr, to, be, hTr, hEa, NtOk_aw h8 hNt (w := 0) (x := 0) (fun s hs => by rw [b_0] at hs; cases hs) (by omega), hSd, hU, hIm, hBo, hMk⟩
theorem op_hour (hN : 70000 ≤ N) (I : Inv si fa sm fm) (p1 : Int32) : ∃ r x1 x2 x21 x22 f36 m16 g8 g10, F_X8_hour N 140 (si 1) (si 2) (si 11) (si 21) (si 22) (si 23) (fa 21) (fa 22) (fa 23) (fa 24) (fa 32) (fa 36) p1 = some (r, x1, x2, x21, x22, f36) ∧ F_X9_hour N (sm 12) (sm 13) (sm 15) (sm 16) (fm 6) (fm 8) (fm 10) p1 = some (r, m16, g8, g10) ∧ Inv (upd (upd (upd (upd si 1 x1) 2 x2) 21 x21) 22 x22) (va_up fa 36 f36) (upd sm 16 m16) (va_up (va_up fm 8 g8) 10 g10) := by
  obtain ⟨hTx, hF, n, c, cp, tu, pi, lo, de, fr, to, be, hTr, hEa, hNt, hSd, hUn, hIm, hBo, hMk⟩ := id I
  obtain ⟨a1, a2, a3, M, T, a6, a7, a8, a9, a10, a11, a12, a13, a14, a15⟩ := id hTr
  have h8 := M.1
  have same : Inv (upd (upd (upd (upd si 1 (si 1)) 2 (si 2)) 21 (si 21)) 22 (si 22)) (va_up fa 36 (fa 36)) (upd sm 16 (sm 16)) (va_up (va_up fm 8 (fm 8)) 10 (fm 10)) := ⟨hTx, hF, n, c, cp, tu, pi, lo, de, fr, to, be, hTr, hEa, hNt, hSd, hUn, hIm, hBo, hMk⟩
  unfold F_X8_hour F_X9_hour
  rw [a6, a10, a11, a13]
  rcases in_1_12 p1 with ⟨e1, e2⟩ | ⟨e1, e2, e3⟩ | ⟨j, j1, j2, rfl, e1, e2, e3⟩
  · rw [if_pos e1, bnd_of e2, if_pos rfl]
    exact ⟨_, _, _, _, _, _, _, _, _, rfl, rfl, same⟩
  · rw [if_neg e1, if_neg e2, bnd_of e3, if_pos rfl]
    exact ⟨_, _, _, _, _, _, _, _, _, rfl, rfl, same⟩
  rw [if_neg e1, if_pos e2, bnd_of e3, if_neg (show ¬ (1 : Int32) = 0 by decide)]
  by_cases q : nI c = 0
  · rw [if_pos q, if_pos q]
    exact ⟨_, _, _, _, _, _, _, _, _, rfl, rfl, same⟩
  obtain ⟨b1, b2, b3, b4, b5, h, b6, b7, b8⟩ := id hNt
  rw [if_neg q, if_neg q, b7, show (9 : Int32) = nI 9 from rfl, rd_nI (by omega) (by omega), b8]
  by_cases hh : h < 12
  · obtain ⟨x1, x2, cells', m', rows', f1, f2, hU⟩ := un_step hN h8 hUn hNt (si 23)
    rw [b7] at f1
    rw [if_pos (lt12 hh), if_neg (ne12 (by omega) (by omega)), bnd_of f1, bnd_of f2]
    have key : ∀ m f i h aw row, i + m = j → m < f → h ≤ 12 → NtOk n c be (fa 32) row aw (nI h) → ∃ x21 x22 g8, F_X8_hour_45 N 140 (nI c) (si 23) (fa 21) (fa 22) (fa 23) (fa 24) (fa 32) (nI j) f x1 x2 aw (nI h) cells' (nI i) = some (x22, x1, x2, x21, x22, cells') ∧ F_X9_hour_41 N (nI c) (nI n) tu (fm 6) (nI j) f m' row rows' (nI i) = some (x22, m', g8, rows') ∧ NtOk n c be (fa 32) g8 x21 x22 := by
      intro m
      induction m with
      | zero =>
        intro f i h aw row hi hf hh Nt
        obtain ⟨g, rfl⟩ : ∃ g, f = g + 1 := ⟨f - 1, by omega⟩
        have e : i = j := by omega
        subst e
        obtain ⟨_, _, _, _, _, y, y1, y2, y3⟩ := id Nt
        have ey : y = h := i_inj (by omega) (by omega) y2.symm
        subst ey
        refine ⟨aw, nI y, row, ?_, ?_, Nt⟩
        · show B_X8_hour_45 N 140 (nI c) (si 23) (fa 21) (fa 22) (fa 23) (fa 24) (fa 32) (nI i) (F_X8_hour_45 N 140 (nI c) (si 23) (fa 21) (fa 22) (fa 23) (fa 24) (fa 32) (nI i) g) x1 x2 aw (nI y) cells' (nI i) = _
          unfold B_X8_hour_45
          rw [if_pos (i_le (Nat.le_refl _) (by omega))]
        · show B_X9_hour_41 N (nI c) (nI n) tu (fm 6) (nI i) (F_X9_hour_41 N (nI c) (nI n) tu (fm 6) (nI i) g) m' row rows' (nI i) = _
          unfold B_X9_hour_41 B_X9_hour_72
          rw [if_pos (i_le (Nat.le_refl _) (by omega)), show (9 : Int32) = nI 9 from rfl, rd_nI (by omega) (by omega), y3]
      | succ m ih =>
        intro f i h aw row hi hf hh Nt
        obtain ⟨g, rfl⟩ : ∃ g, f = g + 1 := ⟨f - 1, by omega⟩
        obtain ⟨_, _, _, _, _, y, y1, y2, y3⟩ := id Nt
        have ey : y = h := i_inj (by omega) (by omega) y2.symm
        subst ey
        by_cases h12 : y < 12
        · obtain ⟨aw', row', p1, p2, p3⟩ := pass_step hN a1 M hEa.2 h12 Nt
          obtain ⟨z1, z2, z3, r1, r2, r3⟩ := ih g (i + 1) (y + 1) aw' row' (by omega) (by omega) (by omega) p3
          refine ⟨z1, z2, z3, ?_, ?_, r3⟩
          · show B_X8_hour_45 N 140 (nI c) (si 23) (fa 21) (fa 22) (fa 23) (fa 24) (fa 32) (nI j) (F_X8_hour_45 N 140 (nI c) (si 23) (fa 21) (fa 22) (fa 23) (fa 24) (fa 32) (nI j) g) x1 x2 aw (nI y) cells' (nI i) = _
            unfold B_X8_hour_45
            rw [if_neg (i_nle (by omega) (by omega)), if_neg (nge12 h12), bnd_of p1, nm_def, i_s]
            exact r1
          · show B_X9_hour_41 N (nI c) (nI n) tu (fm 6) (nI j) (F_X9_hour_41 N (nI c) (nI n) tu (fm 6) (nI j) g) m' row rows' (nI i) = _
            unfold B_X9_hour_41
            rw [if_neg (i_nle (by omega) (by omega)), show (9 : Int32) = nI 9 from rfl, rd_nI (by omega) (by omega), y3, if_neg (nge12 h12), bnd_of p2, nm_def, i_s]
            exact r2
        · have e12 : y = 12 := by omega
          subst e12
          refine ⟨aw, nI 12, row, ?_, ?_, Nt⟩
          · show B_X8_hour_45 N 140 (nI c) (si 23) (fa 21) (fa 22) (fa 23) (fa 24) (fa 32) (nI j) (F_X8_hour_45 N 140 (nI c) (si 23) (fa 21) (fa 22) (fa 23) (fa 24) (fa 32) (nI j) g) x1 x2 aw (nI 12) cells' (nI i) = _
            unfold B_X8_hour_45
            rw [if_neg (i_nle (by omega) (by omega)), if_pos (ge12 (Nat.le_refl _) (by omega))]
          · show B_X9_hour_41 N (nI c) (nI n) tu (fm 6) (nI j) (F_X9_hour_41 N (nI c) (nI n) tu (fm 6) (nI j) g) m' row rows' (nI i) = _
            unfold B_X9_hour_41 B_X9_hour_72
            rw [if_neg (i_nle (by omega) (by omega)), show (9 : Int32) = nI 9 from rfl, rd_nI (by omega) (by omega), y3, if_pos (ge12 (Nat.le_refl _) (by omega)), rd_nI (by omega) (by omega), y3]
    obtain ⟨z1, z2, z3, r1, r2, r3⟩ := key j N 0 h (si 21) (fm 8) (by omega) (by omega) (by omega) (by rw [b7] at hNt; exact hNt)
    exact ⟨_, _, _, _, _, _, _, _, _, r1, r2, hTx, hF, n, c, cp, tu, pi, lo, de, fr, to, be, hTr, hEa, r3, hSd, hU, hIm, hBo, hMk⟩
  · have e : h = 12 := by omega
    subst e
    rw [if_neg (nlt12 (Nat.le_refl _) (by omega)), if_pos (show nI 12 = 12 from rfl)]
    rw [b7] at same
    exact ⟨_, _, _, _, _, _, _, _, _, rfl, rfl, same⟩
theorem op_drift (hN : 70000 ≤ N) (I : Inv si fa sm fm) (p1 : Int32) : ∃ r x1 x2 x21 x22 x23 f36 m16 m17 g8 g10, F_X8_drift N 140 (si 1) (si 2) (si 11) (si 12) (si 21) (si 22) (si 23) (fa 21) (fa 22) (fa 23) (fa 24) (fa 32) (fa 36) p1 = some (r, x1, x2, x21, x22, x23, f36) ∧ F_X9_drift N (sm 12) (sm 13) (sm 15) (sm 16) (sm 17) (fm 6) (fm 8) (fm 10) p1 = some (r, m16, m17, g8, g10) ∧ Inv (upd (upd (upd (upd (upd si 1 x1) 2 x2) 21 x21) 22 x22) 23 x23) (va_up fa 36 f36) (upd (upd sm 16 m16) 17 m17) (va_up (va_up fm 8 g8) 10 g10) := by
  obtain ⟨hTx, hF, n, c, cp, tu, pi, lo, de, fr, to, be, hTr, hEa, hNt, hSd, hUn, hIm, hBo, hMk⟩ := id I
  obtain ⟨a1, a2, a3, M, T, a6, a7, a8, a9, a10, a11, a12, a13, a14, a15⟩ := id hTr
  have h8 := M.1
  have same : Inv (upd (upd (upd (upd (upd si 1 (si 1)) 2 (si 2)) 21 (si 21)) 22 (si 22)) 23 (si 23)) (va_up fa 36 (fa 36)) (upd (upd sm 16 (sm 16)) 17 (sm 17)) (va_up (va_up fm 8 (fm 8)) 10 (fm 10)) := ⟨hTx, hF, n, c, cp, tu, pi, lo, de, fr, to, be, hTr, hEa, hNt, hSd, hUn, hIm, hBo, hMk⟩
  unfold F_X8_drift F_X9_drift
  rw [a6, a7, a10, a11, a13]
  rcases in_1_12 p1 with ⟨e1, e2⟩ | ⟨e1, e2, e3⟩ | ⟨j, j1, j2, rfl, e1, e2, e3⟩
  · rw [if_pos e1, bnd_of e2, if_pos rfl]
    exact ⟨_, _, _, _, _, _, _, _, _, _, _, rfl, rfl, same⟩
  · rw [if_neg e1, if_neg e2, bnd_of e3, if_pos rfl]
    exact ⟨_, _, _, _, _, _, _, _, _, _, _, rfl, rfl, same⟩
  rw [if_neg e1, if_pos e2, bnd_of e3, if_neg (show ¬ (1 : Int32) = 0 by decide)]
  by_cases q : nI c = 0
  · rw [if_pos q, if_pos q]
    exact ⟨_, _, _, _, _, _, _, _, _, _, _, rfl, rfl, same⟩
  rw [if_neg q, if_neg q]
  by_cases qn : nI n = 0
  · rw [if_pos qn, if_pos qn]
    exact ⟨_, _, _, _, _, _, _, _, _, _, _, rfl, rfl, same⟩
  have hn0 : 0 < n := by
    rcases Nat.eq_zero_or_pos n with z | z
    · exact absurd (by rw [z]; rfl) qn
    · exact z
  obtain ⟨b1, b2, b3, b4, b5, h, b6, b7, b8⟩ := id hNt
  rw [if_neg qn, if_neg qn, b7, show (9 : Int32) = nI 9 from rfl, rd_nI (by omega) (by omega), b8]
  by_cases hh : h < 12
  · obtain ⟨x1, x2, cells', m', rows', f1, f2, hU⟩ := un_step hN h8 hUn hNt (si 23)
    rw [b7] at f1
    rw [if_pos (lt12 hh), if_neg (ne12 (by omega) (by omega)), bnd_of f1, bnd_of f2]
    obtain ⟨sd, sd1, sd2, sd3⟩ := hSd
    rw [sd2, sd3]
    have key : ∀ m f i h aw row sd, i + m = j → m < f → h ≤ 12 → sd < 2147483648 → NtOk n c be (fa 32) row aw (nI h) → ∃ x21 x22 g8 sd', sd' < 2147483648 ∧ F_X8_drift_55 N 140 (nI c) (nI n) (fa 21) (fa 22) (fa 23) (fa 24) (fa 32) (nI j) f x1 x2 aw (nI h) (nI sd) cells' (nI i) = some (x22, x1, x2, x21, x22, nI sd', cells') ∧ F_X9_drift_48 N (nI c) (nI n) tu (fm 6) (nI j) f m' (nI sd) row rows' (nI i) = some (x22, m', nI sd', g8, rows') ∧ NtOk n c be (fa 32) g8 x21 x22 := by
      intro m
      induction m with
      | zero =>
        intro f i h aw row sd hi hf hh hs Nt
        obtain ⟨g, rfl⟩ : ∃ g, f = g + 1 := ⟨f - 1, by omega⟩
        have e : i = j := by omega
        subst e
        obtain ⟨_, _, _, _, _, y, y1, y2, y3⟩ := id Nt
        have ey : y = h := i_inj (by omega) (by omega) y2.symm
        subst ey
        refine ⟨aw, nI y, row, sd, hs, ?_, ?_, Nt⟩
        · show B_X8_drift_55 N 140 (nI c) (nI n) (fa 21) (fa 22) (fa 23) (fa 24) (fa 32) (nI i) (F_X8_drift_55 N 140 (nI c) (nI n) (fa 21) (fa 22) (fa 23) (fa 24) (fa 32) (nI i) g) x1 x2 aw (nI y) (nI sd) cells' (nI i) = _
          unfold B_X8_drift_55
          rw [if_pos (i_le (Nat.le_refl _) (by omega))]
        · show B_X9_drift_48 N (nI c) (nI n) tu (fm 6) (nI i) (F_X9_drift_48 N (nI c) (nI n) tu (fm 6) (nI i) g) m' (nI sd) row rows' (nI i) = _
          unfold B_X9_drift_48 B_X9_drift_114
          rw [if_pos (i_le (Nat.le_refl _) (by omega)), show (9 : Int32) = nI 9 from rfl, rd_nI (by omega) (by omega), y3]
      | succ m ih =>
        intro f i h aw row sd hi hf hh hs Nt
        obtain ⟨g, rfl⟩ : ∃ g, f = g + 1 := ⟨f - 1, by omega⟩
        obtain ⟨_, _, _, y0, yb, y, y1, y2, y3⟩ := id Nt
        have ey : y = h := i_inj (by omega) (by omega) y2.symm
        subst ey
        by_cases h12 : y < 12
        · have go : ∀ aw2 row2 sd2, sd2 < 2147483648 → NtOk n c be (fa 32) row2 aw2 (nI y) → ∃ x21 x22 g8 sd', sd' < 2147483648 ∧ B_X8_drift_113 N 140 (nI c) (nI n) (fa 21) (fa 22) (fa 23) (fa 24) (fa 32) (nI j) (F_X8_drift_55 N 140 (nI c) (nI n) (fa 21) (fa 22) (fa 23) (fa 24) (fa 32) (nI j) g) x1 x2 aw2 (nI y) (nI sd2) cells' (nI i) = some (x22, x1, x2, x21, x22, nI sd', cells') ∧ B_X9_drift_100 N (nI c) (nI n) tu (fm 6) (nI j) (F_X9_drift_48 N (nI c) (nI n) tu (fm 6) (nI j) g) m' (nI sd2) row2 rows' (nI i) = some (x22, m', nI sd', g8, rows') ∧ NtOk n c be (fa 32) g8 x21 x22 := by
            intro aw2 row2 sd2 hs2 Nt2
            obtain ⟨aw', row', p1, p2, p3⟩ := pass_step hN a1 M hEa.2 h12 Nt2
            obtain ⟨z1, z2, z3, z4, r0, r1, r2, r3⟩ := ih g (i + 1) (y + 1) aw' row' sd2 (by omega) (by omega) (by omega) hs2 p3
            refine ⟨z1, z2, z3, z4, r0, ?_, ?_, r3⟩
            · unfold B_X8_drift_113
              rw [bnd_of p1, nm_def, i_s]
              exact r1
            · unfold B_X9_drift_100
              rw [bnd_of p2, nm_def, i_s]
              exact r2
          have d1 : F_X2_draw (nI sd) 5 = some (nI (drawV sd 5), nI (nextS sd)) := v_X2_draw (sd := sd) (m := 5) hs (by omega) (by omega)
          have d2 : F_X9_draw (nI sd) 5 = some (nI (drawV sd 5), nI (nextS sd)) := v_X9_draw (sd := sd) (m := 5) hs (by omega) (by omega)
          have hv5 := drawV_lt (sd := sd) (m := 5) (by omega)
          have hs1 := nextS_lt sd
          by_cases z : drawV sd 5 = 0
          · have d3 := v_X2_draw (sd := nextS sd) (m := n) hs1 hn0 (by omega)
            have d4 := v_X9_draw (sd := nextS sd) (m := n) hs1 hn0 (by omega)
            have hvn := drawV_lt (sd := nextS sd) (m := n) hn0
            obtain ⟨z1, z2, z3, z4, r0, r1, r2, r3⟩ := go (aw &&& (((1 : Int32) <<< (nI (drawV (nextS sd) n) &&& 31)) ^^^ (-1))) (upd row 8 (aw &&& (((1 : Int32) <<< (nI (drawV (nextS sd) n) &&& 31)) ^^^ (-1)))) (nextS (nextS sd)) (nextS_lt _) (by
              have h3 := NtOk_aw h8 Nt (w := aw &&& (((1 : Int32) <<< (nI (drawV (nextS sd) n) &&& 31)) ^^^ (-1))) (x := y) (fun s hs => yb s (by rw [b_and] at hs; exact ((Bool.and_eq_true _ _).mp hs).1)) (by omega)
              refine NtOk_congr h8 h3 (fun k hk => rfl) (fun s hs => ?_) rfl rfl
              by_cases e9 : s = 9
              · subst e9; rw [pk_un (by omega), pk_us, y3]
              · rw [pk_un (k := 9) e9])
            refine ⟨z1, z2, z3, z4, r0, ?_, ?_, r3⟩
            · show B_X8_drift_55 N 140 (nI c) (nI n) (fa 21) (fa 22) (fa 23) (fa 24) (fa 32) (nI j) (F_X8_drift_55 N 140 (nI c) (nI n) (fa 21) (fa 22) (fa 23) (fa 24) (fa 32) (nI j) g) x1 x2 aw (nI y) (nI sd) cells' (nI i) = _
              unfold B_X8_drift_55
              rw [if_neg (i_nle (by omega) (by omega)), if_neg (nge12 h12), bnd_of d1, z, if_pos (show (nI 0, nI (nextS sd)).1 = 0 from rfl), bnd_of d3, nm_def]
              exact r1
            · show B_X9_drift_48 N (nI c) (nI n) tu (fm 6) (nI j) (F_X9_drift_48 N (nI c) (nI n) tu (fm 6) (nI j) g) m' (nI sd) row rows' (nI i) = _
              unfold B_X9_drift_48
              rw [if_neg (i_nle (by omega) (by omega)), show (9 : Int32) = nI 9 from rfl, rd_nI (by omega) (by omega), y3, if_neg (nge12 h12), bnd_of d2, z, if_pos (show (nI 0, nI (nextS sd)).1 = 0 from rfl), show (8 : Int32) = nI 8 from rfl, rd_nI (by omega) (by omega), bnd_of d4, nm_def, wr_nI (by omega) (by omega), ← y0]
              exact r2
          · obtain ⟨z1, z2, z3, z4, r0, r1, r2, r3⟩ := go aw row (nextS sd) hs1 Nt
            refine ⟨z1, z2, z3, z4, r0, ?_, ?_, r3⟩
            · show B_X8_drift_55 N 140 (nI c) (nI n) (fa 21) (fa 22) (fa 23) (fa 24) (fa 32) (nI j) (F_X8_drift_55 N 140 (nI c) (nI n) (fa 21) (fa 22) (fa 23) (fa 24) (fa 32) (nI j) g) x1 x2 aw (nI y) (nI sd) cells' (nI i) = _
              unfold B_X8_drift_55
              rw [if_neg (i_nle (by omega) (by omega)), if_neg (nge12 h12), bnd_of d1, if_neg (show ¬ (nI (drawV sd 5), nI (nextS sd)).1 = 0 from ne0 z (by omega))]
              exact r1
            · show B_X9_drift_48 N (nI c) (nI n) tu (fm 6) (nI j) (F_X9_drift_48 N (nI c) (nI n) tu (fm 6) (nI j) g) m' (nI sd) row rows' (nI i) = _
              unfold B_X9_drift_48
              rw [if_neg (i_nle (by omega) (by omega)), show (9 : Int32) = nI 9 from rfl, rd_nI (by omega) (by omega), y3, if_neg (nge12 h12), bnd_of d2, if_neg (show ¬ (nI (drawV sd 5), nI (nextS sd)).1 = 0 from ne0 z (by omega))]
              exact r2
        · have e12 : y = 12 := by omega
          subst e12
          refine ⟨aw, nI 12, row, sd, hs, ?_, ?_, Nt⟩
          · show B_X8_drift_55 N 140 (nI c) (nI n) (fa 21) (fa 22) (fa 23) (fa 24) (fa 32) (nI j) (F_X8_drift_55 N 140 (nI c) (nI n) (fa 21) (fa 22) (fa 23) (fa 24) (fa 32) (nI j) g) x1 x2 aw (nI 12) (nI sd) cells' (nI i) = _
            unfold B_X8_drift_55
            rw [if_neg (i_nle (by omega) (by omega)), if_pos (ge12 (Nat.le_refl _) (by omega))]
          · show B_X9_drift_48 N (nI c) (nI n) tu (fm 6) (nI j) (F_X9_drift_48 N (nI c) (nI n) tu (fm 6) (nI j) g) m' (nI sd) row rows' (nI i) = _
            unfold B_X9_drift_48 B_X9_drift_114
            rw [if_neg (i_nle (by omega) (by omega)), show (9 : Int32) = nI 9 from rfl, rd_nI (by omega) (by omega), y3, if_pos (ge12 (Nat.le_refl _) (by omega)), rd_nI (by omega) (by omega), y3]
    obtain ⟨z1, z2, z3, z4, r0, r1, r2, r3⟩ := key j N 0 h (si 21) (fm 8) sd (by omega) (by omega) (by omega) sd1 (by rw [b7] at hNt; exact hNt)
    exact ⟨_, _, _, _, _, _, _, _, _, _, _, r1, r2, hTx, hF, n, c, cp, tu, pi, lo, de, fr, to, be, hTr, hEa, r3, ⟨z4, r0, rfl, rfl⟩, hU, hIm, hBo, hMk⟩
  · have e : h = 12 := by omega
    subst e
    rw [if_neg (nlt12 (Nat.le_refl _) (by omega)), if_pos (show nI 12 = 12 from rfl)]
    rw [b7] at same
    exact ⟨_, _, _, _, _, _, _, _, _, _, _, rfl, rfl, same⟩
theorem op_undo (hN : 70000 ≤ N) (I : Inv si fa sm fm) : ∃ r x2 x21 x22 x23 f32 m16 g8, F_X8_undo N 140 (si 1) (si 2) (si 21) (si 22) (si 23) (fa 32) (fa 36) = some (r, x2, x21, x22, x23, f32) ∧ F_X9_undo N (sm 16) (fm 8) (fm 10) = some (r, m16, g8) ∧ Inv (upd (upd (upd (upd si 2 x2) 21 x21) 22 x22) 23 x23) (va_up fa 32 f32) (upd sm 16 m16) (va_up fm 8 g8) := by
  obtain ⟨hTx, hF, n, c, cp, tu, pi, lo, de, fr, to, be, hTr, hEa, hNt, hSd, ⟨o, u, u1, u2, u3, u4, u5, u6⟩, hIm, hBo, hMk⟩ := id I
  have h8 := hTr.2.2.2.1.1
  unfold F_X8_undo F_X9_undo
  rw [u3, u4, u5]
  by_cases q : u = 0
  · subst q
    rw [if_pos (show nI 0 = 0 from rfl), if_pos (show nI 0 = 0 from rfl)]
    exact ⟨_, _, _, _, _, _, _, _, rfl, rfl, hTx, hF, n, c, cp, tu, pi, lo, de, fr, to, be, hTr, hEa, hNt, hSd, ⟨o, 0, u1, u2, u3, rfl, rfl, u6⟩, hIm, hBo, hMk⟩
  · have hm := Nat.mod_lt (o + (u - 1)) (by decide : 0 < 20)
    have hcp : F_X9_copy N 200 10 (fm 10) (fm 8) (nI (10 * (u - 1))) 0 = some (va_cpy (fm 10) (fm 8) (10 * (u - 1)) 0 10) := v_X9_copy hN (t := 0) (by omega) (by omega) (by omega) (by omega)
    rw [if_neg (ne0 q (by omega)), if_neg (ne0 q (by omega)), i_pred (by omega), nm_def, nm_def, nI_add, i_m20 (by omega), nm_def, bnd_of (v_X3_take hN (by omega) (by omega) _ _ _ _ _), i_10, bnd_of hcp]
    exact ⟨_, _, _, _, _, _, _, _, rfl, rfl, hTx, hF, n, c, cp, tu, pi, lo, de, fr, to, be, hTr, hEa, NtOk_congr h8 (u6 (u - 1) (by omega)) (fun k hk => pk_cpy_in (by omega) (by omega)) (fun s hs => pk_cpy_in (by omega) (by omega)) rfl rfl, hSd, ⟨o, u - 1, u1, by omega, u3, rfl, rfl, fun j hj => u6 j (by omega)⟩, hIm, hBo, hMk⟩
end Ops

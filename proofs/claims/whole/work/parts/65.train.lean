/-! the reference takes over what it has read -/
section Take
variable {N : Nat} {t2 : Nat → Int32}
theorem tr_73 (hN : 70000 ≤ N) (l1 l2 l3 l4 l5 l6 l7 l8 l9 l10 l11 l12 xcp xtu xb xe : Int32) (rb rr rm be0 of0 ma0 now kept : Nat → Int32) {c n : Nat} (hc : c ≤ 4) : ∀ (m g i : Nat), i + m = c → m < g → F_X9_train_73 N t2 g l1 l2 l3 l4 l5 l6 l7 l8 l9 l10 l11 l12 (nI c) (nI n) xcp xtu xb xe rb rr rm (va_cpy rb be0 0 0 i) of0 ma0 now kept (nI i) = F_X9_train_101 N t2 N l1 l2 l3 l4 l5 l6 l7 l8 l9 l10 l11 l12 (nI c) (nI n) xcp xtu xb xe rb rr rm (va_cpy rb be0 0 0 c) of0 ma0 now kept 0 := by
  intro m
  induction m with
  | zero =>
    intro g i hi hg
    obtain ⟨g, rfl⟩ : ∃ h, g = h + 1 := ⟨g - 1, by omega⟩
    have e : i = c := by omega
    subst e
    show B_X9_train_73 N t2 (F_X9_train_73 N t2 g) l1 l2 l3 l4 l5 l6 l7 l8 l9 l10 l11 l12 (nI i) (nI n) xcp xtu xb xe rb rr rm (va_cpy rb be0 0 0 i) of0 ma0 now kept (nI i) = _
    unfold B_X9_train_73
    rw [if_pos (i_le (Nat.le_refl _) (by omega))]
  | succ m ih =>
    intro g i hi hg
    obtain ⟨g, rfl⟩ : ∃ h, g = h + 1 := ⟨g - 1, by omega⟩
    show B_X9_train_73 N t2 (F_X9_train_73 N t2 g) l1 l2 l3 l4 l5 l6 l7 l8 l9 l10 l11 l12 (nI c) (nI n) xcp xtu xb xe rb rr rm (va_cpy rb be0 0 0 i) of0 ma0 now kept (nI i) = _
    unfold B_X9_train_73
    rw [if_neg (i_nle (by omega) (by omega)), rd_nI (by omega) (by omega), wr_nI (by omega) (by omega), nm_def, i_s, cpy_s0]
    exact ih g (i + 1) (by omega) (by omega)
theorem tr_101 (hN : 70000 ≤ N) (l1 l2 l3 l4 l5 l6 l7 l8 l9 l10 l11 l12 xcp xtu xb xe : Int32) (rb rr rm be0 of0 ma0 now kept : Nat → Int32) {c n : Nat} (hn : n ≤ 8) : ∀ (m g i : Nat), i + m = 5 * n → m < g → F_X9_train_101 N t2 g l1 l2 l3 l4 l5 l6 l7 l8 l9 l10 l11 l12 (nI c) (nI n) xcp xtu xb xe rb rr rm be0 (va_cpy rr of0 0 0 i) ma0 now kept (nI i) = F_X9_train_131 N t2 N l1 l2 l3 l4 l5 l6 l7 l8 l9 l10 l11 l12 (nI c) (nI n) xcp xtu xb xe rb rr rm be0 (va_cpy rr of0 0 0 (5 * n)) ma0 now kept 0 := by
  intro m
  induction m with
  | zero =>
    intro g i hi hg
    obtain ⟨g, rfl⟩ : ∃ h, g = h + 1 := ⟨g - 1, by omega⟩
    have e : i = 5 * n := by omega
    subst e
    show B_X9_train_101 N t2 (F_X9_train_101 N t2 g) l1 l2 l3 l4 l5 l6 l7 l8 l9 l10 l11 l12 (nI c) (nI n) xcp xtu xb xe rb rr rm be0 (va_cpy rr of0 0 0 (5 * n)) ma0 now kept (nI (5 * n)) = _
    unfold B_X9_train_101
    rw [i_of50, if_pos (i_le (Nat.le_refl _) (by omega))]
  | succ m ih =>
    intro g i hi hg
    obtain ⟨g, rfl⟩ : ∃ h, g = h + 1 := ⟨g - 1, by omega⟩
    show B_X9_train_101 N t2 (F_X9_train_101 N t2 g) l1 l2 l3 l4 l5 l6 l7 l8 l9 l10 l11 l12 (nI c) (nI n) xcp xtu xb xe rb rr rm be0 (va_cpy rr of0 0 0 i) ma0 now kept (nI i) = _
    unfold B_X9_train_101
    rw [i_of50, if_neg (i_nle (by omega) (by omega)), rd_nI (by omega) (by omega), wr_nI (by omega) (by omega), nm_def, i_s, cpy_s0]
    exact ih g (i + 1) (by omega) (by omega)
theorem tr_131 (hN : 70000 ≤ N) (l1 l2 l3 l4 l5 l6 l7 l8 l9 l10 l11 l12 xcp xtu xb xe : Int32) (rb rr rm be0 of0 ma0 now kept : Nat → Int32) {c n : Nat} (hn : n ≤ 8) : ∀ (m g i : Nat), i + m = n → m < g → ∃ now' kept' : Nat → Int32, (∀ s, s < 8 → now' s = -1) ∧ now' 8 = 0 ∧ now' 9 = 0 ∧ kept' 0 = 0 ∧ kept' 1 = 0 ∧ F_X9_train_131 N t2 g l1 l2 l3 l4 l5 l6 l7 l8 l9 l10 l11 l12 (nI c) (nI n) xcp xtu xb xe rb rr rm be0 of0 (va_cpy rm ma0 0 0 i) now kept (nI i) = some (nI c, l1, l2, l3, l4, l5, l6, l7, l8, l9, l10, l11, l12, nI c, nI n, xcp, xtu, 0, 0, rb, rr, rm, be0, of0, va_cpy rm ma0 0 0 n, now', kept') := by
  intro m
  induction m with
  | zero =>
    intro g i hi hg
    obtain ⟨g, rfl⟩ : ∃ h, g = h + 1 := ⟨g - 1, by omega⟩
    have e : i = n := by omega
    subst e
    obtain ⟨now', h1, h2, h3, h4⟩ := v_X9_goOut hN (m := 10) (by omega) now
    have k0 : ∀ k : (Nat → Int32) → Option (Int32 × Int32 × Int32 × Int32 × Int32 × Int32 × Int32 × Int32 × Int32 × Int32 × Int32 × Int32 × Int32 × Int32 × Int32 × Int32 × Int32 × Int32 × Int32 × (Nat → Int32) × (Nat → Int32) × (Nat → Int32) × (Nat → Int32) × (Nat → Int32) × (Nat → Int32) × (Nat → Int32) × (Nat → Int32)), wr 2 kept 0 (vp_nar .boolean 0) k = k (upd kept 0 (vp_nar .boolean 0)) := fun k => wr_nI (i := 0) (by omega) (by omega)
    have k1 : ∀ k : (Nat → Int32) → Option (Int32 × Int32 × Int32 × Int32 × Int32 × Int32 × Int32 × Int32 × Int32 × Int32 × Int32 × Int32 × Int32 × Int32 × Int32 × Int32 × Int32 × Int32 × Int32 × (Nat → Int32) × (Nat → Int32) × (Nat → Int32) × (Nat → Int32) × (Nat → Int32) × (Nat → Int32) × (Nat → Int32) × (Nat → Int32)), wr 2 (upd kept 0 (vp_nar .boolean 0)) 1 (vp_nar .boolean 0) k = k (upd (upd kept 0 (vp_nar .boolean 0)) 1 (vp_nar .boolean 0)) := fun k => wr_nI (i := 1) (by omega) (by omega)
    refine ⟨now', upd (upd kept 0 (vp_nar .boolean 0)) 1 (vp_nar .boolean 0), h2, h3, h4, ?_, ?_, ?_⟩
    · rw [pk_un (by omega), pk_us]; rfl
    · rw [pk_us]; rfl
    · show B_X9_train_131 N t2 (F_X9_train_131 N t2 g) l1 l2 l3 l4 l5 l6 l7 l8 l9 l10 l11 l12 (nI c) (nI i) xcp xtu xb xe rb rr rm be0 of0 (va_cpy rm ma0 0 0 i) now kept (nI i) = _
      unfold B_X9_train_131
      rw [if_pos (i_le (Nat.le_refl _) (by omega)), bnd_of h1, k0, k1]
  | succ m ih =>
    intro g i hi hg
    obtain ⟨g, rfl⟩ : ∃ h, g = h + 1 := ⟨g - 1, by omega⟩
    rw [show F_X9_train_131 N t2 (g + 1) l1 l2 l3 l4 l5 l6 l7 l8 l9 l10 l11 l12 (nI c) (nI n) xcp xtu xb xe rb rr rm be0 of0 (va_cpy rm ma0 0 0 i) now kept (nI i) = B_X9_train_131 N t2 (F_X9_train_131 N t2 g) l1 l2 l3 l4 l5 l6 l7 l8 l9 l10 l11 l12 (nI c) (nI n) xcp xtu xb xe rb rr rm be0 of0 (va_cpy rm ma0 0 0 i) now kept (nI i) from rfl]
    unfold B_X9_train_131
    rw [if_neg (i_nle (by omega) (by omega)), rd_nI (by omega) (by omega), wr_nI (by omega) (by omega), nm_def, i_s, cpy_s0]
    exact ih g (i + 1) (by omega) (by omega)
theorem take_all (hN : 70000 ≤ N) (l1 l2 l3 l4 l5 l6 l7 l8 l9 l10 l11 l12 xcp xtu xb xe : Int32) (rb rr rm be0 of0 ma0 now kept : Nat → Int32) {c n : Nat} (hc : c ≤ 4) (hn : n ≤ 8) : ∃ now' kept' : Nat → Int32, (∀ s, s < 8 → now' s = -1) ∧ now' 8 = 0 ∧ now' 9 = 0 ∧ kept' 0 = 0 ∧ kept' 1 = 0 ∧ F_X9_train_73 N t2 N l1 l2 l3 l4 l5 l6 l7 l8 l9 l10 l11 l12 (nI c) (nI n) xcp xtu xb xe rb rr rm be0 of0 ma0 now kept 0 = some (nI c, l1, l2, l3, l4, l5, l6, l7, l8, l9, l10, l11, l12, nI c, nI n, xcp, xtu, 0, 0, rb, rr, rm, va_cpy rb be0 0 0 c, va_cpy rr of0 0 0 (5 * n), va_cpy rm ma0 0 0 n, now', kept') := by
  obtain ⟨now', kept', h1, h2, h3, h4, h5, h6⟩ := tr_131 (t2 := t2) hN l1 l2 l3 l4 l5 l6 l7 l8 l9 l10 l11 l12 xcp xtu xb xe rb rr rm (va_cpy rb be0 0 0 c) (va_cpy rr of0 0 0 (5 * n)) ma0 now kept (c := c) hn n N 0 (by omega) (by omega)
  have q2 := tr_101 (t2 := t2) hN l1 l2 l3 l4 l5 l6 l7 l8 l9 l10 l11 l12 xcp xtu xb xe rb rr rm (va_cpy rb be0 0 0 c) of0 ma0 now kept (c := c) hn (5 * n) N 0 (by omega) (by omega)
  have q1 := tr_73 (t2 := t2) hN l1 l2 l3 l4 l5 l6 l7 l8 l9 l10 l11 l12 xcp xtu xb xe rb rr rm be0 of0 ma0 now kept (n := n) hc c N 0 (by omega) (by omega)
  rw [cpy_0] at h6 q1 q2
  exact ⟨now', kept', h1, h2, h3, h4, h5, q1.trans (q2.trans h6)⟩
end Take
section Ops
variable {si : Nat → Int32} {fa : Nat → Nat → Int32} {sm : Nat → Int32} {fm : Nat → Nat → Int32} {N : Nat}
theorem op_train (hN : 70000 ≤ N) (I : Inv si fa sm fm) (a3 a11 : Nat) : ∃ o', F_X9_train N (sm 0) (sm 1) (sm 2) (sm 3) (sm 4) (sm 5) (sm 6) (sm 7) (sm 8) (sm 9) (sm 10) (sm 11) (sm 12) (sm 13) (sm 14) (sm 15) (sm 16) (sm 18) (fm 1) (fm 2) (fm 3) (fm 4) (fm 5) (fm 6) (fm 7) (fm 8) (fm 13) = some o' ∧
    ((∃ (o0 o1 o2 o3 o4 o5 o6 o7 o8 o9 o10 o11 o12 o13 o14 o15 o16 o17 o18 : Int32) (o19 o20 o21 o22 o23 o24 o25 o26 o27 o28 o29 o30 o31 : Nat → Int32), F_X8_train N a3 a11 (si 0) (si 2) (si 3) (si 4) (si 5) (si 6) (si 7) (si 8) (si 9) (si 10) (si 15) (si 16) (si 17) (si 18) (si 19) (si 21) (si 22) (si 27) (fa 2) (fa 12) (fa 13) (fa 14) (fa 15) (fa 16) (fa 17) (fa 18) (fa 20) (fa 21) (fa 22) (fa 23) (fa 24) (fa 32) = some (o0, o1, o2, o3, o4, o5, o6, o7, o8, o9, o10, o11, o12, o13, o14, o15, o16, o17, o18, o19, o20, o21, o22, o23, o24, o25, o26, o27, o28, o29, o30, o31, a3, a11) ∧ o0 = o'.1 ∧ Inv (upd (upd (upd (upd (upd (upd (upd (upd (upd (upd (upd (upd (upd (upd (upd (upd (upd (upd si 0 o1) 2 o2) 3 o3) 4 o4) 5 o5) 6 o6) 7 o7) 8 o8) 9 o9) 10 o10) 15 o11) 16 o12) 17 o13) 18 o14) 19 o15) 21 o16) 22 o17) 27 o18) (va_up (va_up (va_up (va_up (va_up (va_up (va_up (va_up (va_up (va_up (va_up (va_up (va_up fa 12 o19) 13 o20) 14 o21) 15 o22) 16 o23) 17 o24) 18 o25) 20 o26) 21 o27) 22 o28) 23 o29) 24 o30) 32 o31) (upd (upd (upd (upd (upd (upd (upd (upd (upd (upd (upd (upd (upd (upd (upd (upd (upd (upd sm 0 o'.2.1) 1 o'.2.2.1) 2 o'.2.2.2.1) 3 o'.2.2.2.2.1) 4 o'.2.2.2.2.2.1) 5 o'.2.2.2.2.2.2.1) 6 o'.2.2.2.2.2.2.2.1) 7 o'.2.2.2.2.2.2.2.2.1) 8 o'.2.2.2.2.2.2.2.2.2.1) 9 o'.2.2.2.2.2.2.2.2.2.2.1) 10 o'.2.2.2.2.2.2.2.2.2.2.2.1) 11 o'.2.2.2.2.2.2.2.2.2.2.2.2.1) 12 o'.2.2.2.2.2.2.2.2.2.2.2.2.2.1) 13 o'.2.2.2.2.2.2.2.2.2.2.2.2.2.2.1) 14 o'.2.2.2.2.2.2.2.2.2.2.2.2.2.2.2.1) 15 o'.2.2.2.2.2.2.2.2.2.2.2.2.2.2.2.2.1) 16 o'.2.2.2.2.2.2.2.2.2.2.2.2.2.2.2.2.2.1) 18 o'.2.2.2.2.2.2.2.2.2.2.2.2.2.2.2.2.2.2.1) (va_up (va_up (va_up (va_up (va_up (va_up (va_up (va_up fm 2 o'.2.2.2.2.2.2.2.2.2.2.2.2.2.2.2.2.2.2.2.1) 3 o'.2.2.2.2.2.2.2.2.2.2.2.2.2.2.2.2.2.2.2.2.1) 4 o'.2.2.2.2.2.2.2.2.2.2.2.2.2.2.2.2.2.2.2.2.2.1) 5 o'.2.2.2.2.2.2.2.2.2.2.2.2.2.2.2.2.2.2.2.2.2.2.1) 6 o'.2.2.2.2.2.2.2.2.2.2.2.2.2.2.2.2.2.2.2.2.2.2.2.1) 7 o'.2.2.2.2.2.2.2.2.2.2.2.2.2.2.2.2.2.2.2.2.2.2.2.2.1) 8 o'.2.2.2.2.2.2.2.2.2.2.2.2.2.2.2.2.2.2.2.2.2.2.2.2.2.1) 13 o'.2.2.2.2.2.2.2.2.2.2.2.2.2.2.2.2.2.2.2.2.2.2.2.2.2.2)) ∨
     (∃ (o0 o1 o2 o3 o4 o5 o6 o7 o8 o9 o10 o11 o12 o13 o14 o15 o16 o17 o18 : Int32) (o19 o20 o21 o22 o23 o24 o25 o26 o27 o28 o29 o30 o31 : Nat → Int32), F_X8_train N a3 a11 (si 0) (si 2) (si 3) (si 4) (si 5) (si 6) (si 7) (si 8) (si 9) (si 10) (si 15) (si 16) (si 17) (si 18) (si 19) (si 21) (si 22) (si 27) (fa 2) (fa 12) (fa 13) (fa 14) (fa 15) (fa 16) (fa 17) (fa 18) (fa 20) (fa 21) (fa 22) (fa 23) (fa 24) (fa 32) = some (o0, o1, o2, o3, o4, o5, o6, o7, o8, o9, o10, o11, o12, o13, o14, o15, o16, o17, o18, o19, o20, o21, o22, o23, o24, o25, o26, o27, o28, o29, o30, o31, a11, a3) ∧ o0 = o'.1 ∧ Inv (swS (upd (upd (upd (upd (upd (upd (upd (upd (upd (upd (upd (upd (upd (upd (upd (upd (upd (upd si 0 o1) 2 o2) 3 o3) 4 o4) 5 o5) 6 o6) 7 o7) 8 o8) 9 o9) 10 o10) 15 o11) 16 o12) 17 o13) 18 o14) 19 o15) 21 o16) 22 o17) 27 o18)) (swF (va_up (va_up (va_up (va_up (va_up (va_up (va_up (va_up (va_up (va_up (va_up (va_up (va_up fa 12 o19) 13 o20) 14 o21) 15 o22) 16 o23) 17 o24) 18 o25) 20 o26) 21 o27) 22 o28) 23 o29) 24 o30) 32 o31)) (upd (upd (upd (upd (upd (upd (upd (upd (upd (upd (upd (upd (upd (upd (upd (upd (upd (upd sm 0 o'.2.1) 1 o'.2.2.1) 2 o'.2.2.2.1) 3 o'.2.2.2.2.1) 4 o'.2.2.2.2.2.1) 5 o'.2.2.2.2.2.2.1) 6 o'.2.2.2.2.2.2.2.1) 7 o'.2.2.2.2.2.2.2.2.1) 8 o'.2.2.2.2.2.2.2.2.2.1) 9 o'.2.2.2.2.2.2.2.2.2.2.1) 10 o'.2.2.2.2.2.2.2.2.2.2.2.1) 11 o'.2.2.2.2.2.2.2.2.2.2.2.2.1) 12 o'.2.2.2.2.2.2.2.2.2.2.2.2.2.1) 13 o'.2.2.2.2.2.2.2.2.2.2.2.2.2.2.1) 14 o'.2.2.2.2.2.2.2.2.2.2.2.2.2.2.2.1) 15 o'.2.2.2.2.2.2.2.2.2.2.2.2.2.2.2.2.1) 16 o'.2.2.2.2.2.2.2.2.2.2.2.2.2.2.2.2.2.1) 18 o'.2.2.2.2.2.2.2.2.2.2.2.2.2.2.2.2.2.2.1) (va_up (va_up (va_up (va_up (va_up (va_up (va_up (va_up fm 2 o'.2.2.2.2.2.2.2.2.2.2.2.2.2.2.2.2.2.2.2.1) 3 o'.2.2.2.2.2.2.2.2.2.2.2.2.2.2.2.2.2.2.2.2.1) 4 o'.2.2.2.2.2.2.2.2.2.2.2.2.2.2.2.2.2.2.2.2.2.1) 5 o'.2.2.2.2.2.2.2.2.2.2.2.2.2.2.2.2.2.2.2.2.2.2.1) 6 o'.2.2.2.2.2.2.2.2.2.2.2.2.2.2.2.2.2.2.2.2.2.2.2.1) 7 o'.2.2.2.2.2.2.2.2.2.2.2.2.2.2.2.2.2.2.2.2.2.2.2.2.1) 8 o'.2.2.2.2.2.2.2.2.2.2.2.2.2.2.2.2.2.2.2.2.2.2.2.2.2.1) 13 o'.2.2.2.2.2.2.2.2.2.2.2.2.2.2.2.2.2.2.2.2.2.2.2.2.2.2))) := by
  obtain ⟨⟨len, l1, l2, l3, l4⟩, hF, n0, c0, cp0, tu0, pi0, lo0, de0, fr0, to0, be0, hTr, hEa, hNt, hSd, hUn, hIm, hBo, hMk⟩ := id I
  have X : TxT len (fun j => (fa 2 j).toNatClampNeg) (fa 2) (fm 1) := ⟨l1, fun j hj => by
    obtain ⟨b, h1, h2, h3⟩ := l4 j hj
    show (fa 2 j).toNatClampNeg < 256 ∧ fa 2 j = nI (fa 2 j).toNatClampNeg ∧ fm 1 j = nI (fa 2 j).toNatClampNeg
    rw [h2, h3, nI_clamp (by omega)]
    exact ⟨h1, rfl, rfl⟩⟩
  obtain ⟨o, o', e1, e2, e3⟩ := text_both hN X (si 6) (si 7) (si 8) (si 9) (si 10) (si 15) (si 16) (si 17) (si 18) (fa 12) (fa 13) (fa 14) (fa 15) (fa 16) (fa 17) (fa 18) (sm 1) (sm 2) (sm 3) (sm 4) (sm 5) (sm 6) (sm 7) (sm 8) (sm 9) (sm 10) (sm 11) (fm 2) (fm 3) (fm 4)
  unfold F_X8_train F_X9_train
  rw [l2, l3, bnd_of e1, bnd_of e2]
  rcases e3 with ⟨b1, f, x, b2, b3, b4, b5, b6⟩ | ⟨b1, b2, n, c, cp, lt, w, pi, lo, de, fr, to, be, Rd⟩
  · rw [if_pos b1, if_neg (show ¬ o.1 = 0 by rw [b3]; exact fl_ne b2)]
    unfold B_X8_train_28
    rw [if_neg (show ¬ o.1 = 0 by rw [b3]; exact fl_ne b2)]
    refine ⟨_, rfl, Or.inl ⟨_, _, _, _, _, _, _, _, _, _, _, _, _, _, _, _, _, _, _, _, _, _, _, _, _, _, _, _, _, _, _, _, rfl, ?_, ?_⟩⟩
    · show (-10 : Int32) - o.1 = -10 - o'.2.2.2.2.2.2.2.1
      rw [b3, b6]
    · exact ⟨⟨0, by omega, rfl, rfl, fun j hj => absurd hj (by omega)⟩, b4.trans b5.symm, n0, c0, cp0, tu0, pi0, lo0, de0, fr0, to0, be0, hTr, hEa, hNt, hSd, hUn, hIm, hBo, hMk⟩
  · obtain ⟨c4, cp4, cn, M, Tr, d15, d16, d17, d8, d9, d10, d1, d18, hl, hB, hM, hZ⟩ := Rd
    have h8 := M.1
    have key : (if (0 : Int32) ≤ o'.2.2.2.2.2.2.2.2.2.2.2.1 then F_X9_train_73 N (fm 1) N 0 o'.2.1 o'.2.2.1 o'.2.2.2.1 o'.2.2.2.2.1 o'.2.2.2.2.2.1 (-1) o'.2.2.2.2.2.2.2.1 o'.2.2.2.2.2.2.2.2.1 o'.2.2.2.2.2.2.2.2.2.1 o'.2.2.2.2.2.2.2.2.2.2.1 o'.2.2.2.2.2.2.2.2.2.2.2.1 o'.2.2.2.2.2.2.2.2.1 o'.2.2.2.2.2.2.2.2.2.1 o'.2.2.2.2.2.2.2.2.2.2.1 o'.2.2.2.2.2.2.2.2.2.2.2.1 (sm 16) (sm 18) o'.2.2.2.2.2.2.2.2.2.2.2.2.1 o'.2.2.2.2.2.2.2.2.2.2.2.2.2.1 o'.2.2.2.2.2.2.2.2.2.2.2.2.2.2 (fm 5) (fm 6) (fm 7) (fm 8) (fm 13) 0 else F_X9_train_73 N (fm 1) N 0 o'.2.1 o'.2.2.1 o'.2.2.2.1 o'.2.2.2.2.1 o'.2.2.2.2.2.1 (-1) o'.2.2.2.2.2.2.2.1 o'.2.2.2.2.2.2.2.2.1 o'.2.2.2.2.2.2.2.2.2.1 o'.2.2.2.2.2.2.2.2.2.2.1 o'.2.2.2.2.2.2.2.2.2.2.2.1 o'.2.2.2.2.2.2.2.2.1 o'.2.2.2.2.2.2.2.2.2.1 o'.2.2.2.2.2.2.2.2.2.2.1 57 (sm 16) (sm 18) o'.2.2.2.2.2.2.2.2.2.2.2.2.1 o'.2.2.2.2.2.2.2.2.2.2.2.2.2.1 o'.2.2.2.2.2.2.2.2.2.2.2.2.2.2 (fm 5) (fm 6) (fm 7) (fm 8) (fm 13) 0) = F_X9_train_73 N (fm 1) N 0 o'.2.1 o'.2.2.1 o'.2.2.2.1 o'.2.2.2.2.1 o'.2.2.2.2.2.1 (-1) o'.2.2.2.2.2.2.2.1 o'.2.2.2.2.2.2.2.2.1 o'.2.2.2.2.2.2.2.2.2.1 o'.2.2.2.2.2.2.2.2.2.2.1 o'.2.2.2.2.2.2.2.2.2.2.2.1 o'.2.2.2.2.2.2.2.2.1 o'.2.2.2.2.2.2.2.2.2.1 o'.2.2.2.2.2.2.2.2.2.2.1 w (sm 16) (sm 18) o'.2.2.2.2.2.2.2.2.2.2.2.2.1 o'.2.2.2.2.2.2.2.2.2.2.2.2.2.1 o'.2.2.2.2.2.2.2.2.2.2.2.2.2.2 (fm 5) (fm 6) (fm 7) (fm 8) (fm 13) 0 := by
      rcases hl with ⟨h1, h2, h3⟩ | ⟨h1, h2, h3⟩
      · rw [if_neg (show ¬ (0 : Int32) ≤ o'.2.2.2.2.2.2.2.2.2.2.2.1 by rw [h3]; decide), h2]
      · have w0 : (0 : Int32) ≤ o'.2.2.2.2.2.2.2.2.2.2.2.1 := by
          rw [h2]
          obtain ⟨mm, k1, k2⟩ := small8 (x := w) (fun i hi => by
            cases e : bt w i with
            | false => rfl
            | true => have := h3 i e; omega)
          rw [k2]
          exact ge0 (Nat.zero_le _) (by omega)
        rw [if_pos w0, h2]
    obtain ⟨now', kept', t1, t2, t3, t4, t5, t6⟩ := take_all (t2 := fm 1) hN 0 o'.2.1 o'.2.2.1 o'.2.2.2.1 o'.2.2.2.2.1 o'.2.2.2.2.2.1 (-1) o'.2.2.2.2.2.2.2.1 (nI c) (nI n) o'.2.2.2.2.2.2.2.2.2.2.1 o'.2.2.2.2.2.2.2.2.2.2.2.1 o'.2.2.2.2.2.2.2.2.2.2.1 w (sm 16) (sm 18) o'.2.2.2.2.2.2.2.2.2.2.2.2.1 o'.2.2.2.2.2.2.2.2.2.2.2.2.2.1 o'.2.2.2.2.2.2.2.2.2.2.2.2.2.2 (fm 5) (fm 6) (fm 7) (fm 8) (fm 13) c4 h8
    have hbg : F_X2_begin N (si 21) (si 22) (fa 32) = some (0, 0, va_cpy (fun _ => 0) (fa 32) 0 0 4) := by
      unfold F_X2_begin
      rw [bnd_of (v_J7_fill (by omega) (by omega) _ _)]
    have htn := v_X0_tune hN h8 (fun s hs => (M.2 s hs).2.2.2.2.2.1) (ep := va_cpy o.2.2.2.2.2.2.2.2.2.2.2.1 (fa 20) 0 0 n) (fun s hs => by rw [cpy_in0 hs]; exact (Tr s hs).1) (fa 23) (tu := w)
    rw [key, d8, d9, t6, if_neg (show ¬ o'.1 = 0 by rw [b1]; decide), if_pos b2]
    unfold B_X8_train_28
    rw [if_pos b2, d16, d18, bnd_of (v_X0_listen hN M Tr _ _ _ _ _), bnd_of htn, bnd_of hbg]
    refine ⟨_, rfl, Or.inr ⟨_, _, _, _, _, _, _, _, _, _, _, _, _, _, _, _, _, _, _, _, _, _, _, _, _, _, _, _, _, _, _, _, rfl, d15, ?_⟩⟩
    have M' : MOk n pi lo de fr to (va_cpy o'.2.2.2.2.2.2.2.2.2.2.2.2.2.1 (fm 6) 0 0 (5 * n)) := ⟨h8, fun s hs => by
      rw [cpy_in0 (by omega), cpy_in0 (by omega), cpy_in0 (by omega), cpy_in0 (by omega), cpy_in0 (by omega)]
      exact M.2 s hs⟩
    have hB' : BeI c be o.2.2.2.2.2.2.2.2.2.2.1 (va_cpy o'.2.2.2.2.2.2.2.2.2.2.2.2.1 (fm 5) 0 0 c) := fun k hk => by
      rw [cpy_in0 hk]
      exact hB k hk
    have hM' : MaI n o.2.2.2.2.2.2.2.2.2.2.2.2.2.2.2.2 (va_cpy o'.2.2.2.2.2.2.2.2.2.2.2.2.2.2 (fm 7) 0 0 n) := fun s hs => by
      obtain ⟨o1, o2⟩ := hM s hs
      rw [cpy_in0 hs]
      refine ⟨o1, ?_⟩
      rcases o2 with o2 | ⟨mm, o2, o3, o4, o5⟩
      · exact Or.inl o2
      · exact Or.inr ⟨mm, o2, o3, o4, by rw [cpy_in0 o2]; exact o5⟩
    have E' : EarOk n w pi lo de fr to (va_cpy o.2.2.2.2.2.2.2.2.2.2.2.2.1 (fa 21) 0 0 n) (va_cpy o.2.2.2.2.2.2.2.2.2.2.2.2.2.1 (fa 22) 0 0 n) (va_cpy (jaF n w pi) (fa 23) 0 0 n) (snF fr to (va_cpy (fun _ => 0) (fa 24) 0 0 12) n) := ear_made h8 (fun s hs => (Tr s hs).2.1) (fun s hs => (Tr s hs).2.2.1)
    have hin : ∀ k, k < 4 → ∀ s, innM n now' k s = false := fun k hk s => decide_eq_false (fun e => i_m1' (a := k) (by omega) ((t1 s (by omega)).symm.trans e.2))
    have hNt' : NtOk n c be (va_cpy (fun _ => 0) (fa 32) 0 0 4) now' 0 0 := by
      refine ⟨fun k hk s => by rw [cpy_in0 hk, b_0, hin k hk s], fun s hs => Or.inl (t1 s (by omega)), fun k hk => ?_, t2.symm, (fun s hs => by rw [b_0] at hs; cases hs), 0, by omega, rfl, t3⟩
      rw [cnt_congr (q := fun _ => false) (fun s _ => hin k (by omega) s), cnt_none]
      exact Nat.zero_le _
    have hUn' : UnI n c be (si 1) 0 (fa 36) 0 (fm 10) := by
      obtain ⟨u1, u2, u3, u4, u5, u6, u7, u8⟩ := hUn
      exact ⟨u1, 0, u3, by omega, u5, rfl, rfl, fun j hj => absurd hj (by omega)⟩
    have hIm' : ImI n c be 0 (fa 38) (fm 11) (fm 12) kept' := fun i hi => by
      refine ⟨?_, fun h => by rw [b_0] at h; cases h⟩
      rw [b_0]
      rcases (by omega : i = 0 ∨ i = 1) with e | e
      · rw [e]; exact t4
      · rw [e]; exact t5
    exact ⟨⟨0, by omega, rfl, rfl, fun j hj => absurd hj (by omega)⟩, rfl, n, c, cp, w, pi, lo, de, fr, to, be, ⟨c4, cp4, cn, M', Tr, d15, rfl, d17, rfl, rfl, rfl, d10, rfl, hB', hM'⟩, ⟨rfl, E'⟩, hNt', hSd, hUn', hIm', ⟨0, by omega, rfl, rfl, fun j hj => absurd hj (by omega)⟩, Or.inl rfl⟩
end Ops

theorem in_cases (p : Int32) {m : Nat} (hm : m < 1073741824) : (p < 0 ∧ F_X9_in p 0 (nI m) = some 0) ∨ (∃ j, m < j ∧ j < 2147483648 ∧ p = nI j ∧ ¬ p < 0 ∧ F_X9_in p 0 (nI m) = some 0) ∨ ∃ j, j ≤ m ∧ p = nI j ∧ ¬ p < 0 ∧ F_X9_in p 0 (nI m) = some 1 := by
  by_cases h : p < 0
  · exact Or.inl ⟨h, by unfold F_X9_in; exact if_pos h⟩
  · obtain ⟨j, hj, rfl⟩ := nI_of h
    rcases Nat.lt_or_ge m j with q | q
    · exact Or.inr (Or.inl ⟨j, q, hj, rfl, h, in_out hm (fun i hi e => by have := i_inj (by omega) (by omega) e; omega)⟩)
    · exact Or.inr (Or.inr ⟨j, q, rfl, h, in_in hm q⟩)
section Ops
variable {si : Nat → Int32} {fa : Nat → Nat → Int32} {sm : Nat → Int32} {fm : Nat → Nat → Int32} {N : Nat}
theorem op_keep (hN : 70000 ≤ N) (I : Inv si fa sm fm) (p1 : Int32) : ∃ r x2 x3 f38 m16 g11 g12 g13, F_X8_keep N 14 (si 2) (si 3) (si 21) (si 22) (si 23) (fa 32) (fa 38) p1 = some (r, x2, x3, f38) ∧ F_X9_keep N (sm 16) (sm 17) (fm 8) (fm 11) (fm 12) (fm 13) p1 = some (r, m16, g11, g12, g13) ∧ Inv (upd (upd si 2 x2) 3 x3) (va_up fa 38 f38) (upd sm 16 m16) (va_up (va_up (va_up fm 11 g11) 12 g12) 13 g13) := by
  obtain ⟨hTx, hF, n, c, cp, tu, pi, lo, de, fr, to, be, hTr, hEa, hNt, hSd, hUn, hIm, hBo, hMk⟩ := id I
  have h8 := hTr.2.2.2.1.1
  have same : Inv (upd (upd si 2 (si 2)) 3 (si 3)) (va_up fa 38 (fa 38)) (upd sm 16 (sm 16)) (va_up (va_up (va_up fm 11 (fm 11)) 12 (fm 12)) 13 (fm 13)) := ⟨hTx, hF, n, c, cp, tu, pi, lo, de, fr, to, be, hTr, hEa, hNt, hSd, hUn, hIm, hBo, hMk⟩
  unfold F_X8_keep F_X9_keep
  rcases in_cases p1 (m := 1) (by omega) with ⟨e1, e2⟩ | ⟨j, j1, j2, rfl, e1, e2⟩ | ⟨j, j1, rfl, e1, e2⟩
  · have e2 : F_X9_in p1 0 1 = some 0 := e2
    rw [if_pos e1, bnd_of e2, if_pos rfl]
    exact ⟨_, _, _, _, _, _, _, _, rfl, rfl, same⟩
  · have e2 : F_X9_in (nI j) 0 1 = some 0 := e2
    rw [if_neg e1, if_neg (nlt2 (by omega) j2), bnd_of e2, if_pos rfl]
    exact ⟨_, _, _, _, _, _, _, _, rfl, rfl, same⟩
  · have e2 : F_X9_in (nI j) 0 1 = some 1 := e2
    have hcp : F_X9_copy N 10 20 (fm 8) (fm 11) 0 (nI (10 * j)) = some (va_cpy (fm 8) (fm 11) 0 (10 * j) 10) := v_X9_copy hN (f := 0) (by omega) (by omega) (by omega) (by omega)
    rw [if_neg e1, if_pos (lt2 (by omega)), bnd_of e2, if_neg (show ¬ (1 : Int32) = 0 by decide), bnd_of (v_X3_store hN (by omega) (by omega) _ _ _ _ _), nm_def, i_10, bnd_of hcp, wr_nI (by omega) (by omega), wr_nI (by omega) (by omega)]
    obtain ⟨o, u, u1, u2, u3, u4, u5, u6⟩ := hUn
    refine ⟨_, _, _, _, _, _, _, _, rfl, rfl, hTx, hF, n, c, cp, tu, pi, lo, de, fr, to, be, hTr, hEa, hNt, hSd, ⟨o, 0, u1, by omega, u3, rfl, rfl, fun i hi => absurd hi (by omega)⟩, fun i hi => ?_, hBo, hMk⟩
    show upd (fm 13) j (vp_nar .boolean 1) i = b2i (bt (si 3 ||| ((1 : Int32) <<< (nI j &&& 31))) i) ∧ (bt (si 3 ||| ((1 : Int32) <<< (nI j &&& 31))) i = true → RcOk n c be (stoC (fa 38) (fa 32) j (si 21) (si 22) (si 23)) i (va_cpy (fm 8) (fm 11) 0 (10 * j) 10) i ∧ SdI (stoC (fa 38) (fa 32) j (si 21) (si 22) (si 23) (7 * i + 6)) (upd (fm 12) j (sm 17) i))
    rw [b_or, bt_bit (by omega)]
    by_cases e : i = j
    · subst e
      rw [pk_us, pk_us, decide_eq_true rfl, Bool.or_true]
      refine ⟨by decide, fun _ => ⟨rc_new h8 hNt i i, ?_⟩⟩
      rw [sto_6]
      exact hSd
    · rw [pk_un e, pk_un e, decide_eq_false e, Bool.or_false]
      refine ⟨(hIm i hi).1, fun w => ?_⟩
      obtain ⟨w1, w2⟩ := (hIm i hi).2 w
      refine ⟨rc_old h8 w1 (fun x hx => sto_old (by omega)) (fun s hs => pk_cpy_out (by omega)), ?_⟩
      rw [sto_old (by omega)]
      exact w2
theorem op_goBack (hN : 70000 ≤ N) (I : Inv si fa sm fm) (p1 : Int32) : ∃ r x2 x21 x22 x23 f32 m16 m17 g8, F_X8_goBack N 14 (si 2) (si 3) (si 21) (si 22) (si 23) (fa 32) (fa 38) p1 = some (r, x2, x21, x22, x23, f32) ∧ F_X9_goBack N (sm 16) (sm 17) (fm 8) (fm 11) (fm 12) (fm 13) p1 = some (r, m16, m17, g8) ∧ Inv (upd (upd (upd (upd si 2 x2) 21 x21) 22 x22) 23 x23) (va_up fa 32 f32) (upd (upd sm 16 m16) 17 m17) (va_up fm 8 g8) := by
  obtain ⟨hTx, hF, n, c, cp, tu, pi, lo, de, fr, to, be, hTr, hEa, hNt, hSd, hUn, hIm, hBo, hMk⟩ := id I
  have h8 := hTr.2.2.2.1.1
  have same : Inv (upd (upd (upd (upd si 2 (si 2)) 21 (si 21)) 22 (si 22)) 23 (si 23)) (va_up fa 32 (fa 32)) (upd (upd sm 16 (sm 16)) 17 (sm 17)) (va_up fm 8 (fm 8)) := ⟨hTx, hF, n, c, cp, tu, pi, lo, de, fr, to, be, hTr, hEa, hNt, hSd, hUn, hIm, hBo, hMk⟩
  unfold F_X8_goBack F_X9_goBack
  rcases in_cases p1 (m := 1) (by omega) with ⟨e1, e2⟩ | ⟨j, j1, j2, rfl, e1, e2⟩ | ⟨j, j1, rfl, e1, e2⟩
  · have e2 : F_X9_in p1 0 1 = some 0 := e2
    rw [if_pos e1, bnd_of e2, if_pos rfl]
    exact ⟨_, _, _, _, _, _, _, _, _, rfl, rfl, same⟩
  · have e2 : F_X9_in (nI j) 0 1 = some 0 := e2
    rw [if_neg e1, if_neg (nlt2 (by omega) j2), bnd_of e2, if_pos rfl]
    exact ⟨_, _, _, _, _, _, _, _, _, rfl, rfl, same⟩
  · have e2 : F_X9_in (nI j) 0 1 = some 1 := e2
    obtain ⟨w1, w2⟩ := hIm j (by omega)
    rw [if_neg e1, if_pos (lt2 (by omega)), bnd_of e2, if_neg (show ¬ (1 : Int32) = 0 by decide), bt_tst (by omega), rd_nI (by omega) (by omega), w1]
    cases q : bt (si 3) j with
    | false =>
      rw [if_neg (show ¬ false = true by decide), if_pos rfl, if_pos (show b2i false = 0 from rfl)]
      exact ⟨_, _, _, _, _, _, _, _, _, rfl, rfl, same⟩
    | true =>
      obtain ⟨w3, w4⟩ := w2 q
      have hcp : F_X9_copy N 20 10 (fm 11) (fm 8) (nI (10 * j)) 0 = some (va_cpy (fm 11) (fm 8) (10 * j) 0 10) := v_X9_copy hN (t := 0) (by omega) (by omega) (by omega) (by omega)
      rw [if_pos (show true = true from rfl), if_neg (show ¬ (1 : Int32) = 0 by decide), if_neg (show ¬ b2i true = 0 by decide), bnd_of (v_X3_take hN (by omega) (by omega) _ _ _ _ _), i_10, bnd_of hcp, rd_nI (by omega) (by omega)]
      obtain ⟨o, u, u1, u2, u3, u4, u5, u6⟩ := hUn
      exact ⟨_, _, _, _, _, _, _, _, _, rfl, rfl, hTx, hF, n, c, cp, tu, pi, lo, de, fr, to, be, hTr, hEa, NtOk_congr h8 w3 (fun k hk => pk_cpy_in (by omega) (by omega)) (fun s hs => pk_cpy_in (by omega) (by omega)) rfl rfl, w4, ⟨o, 0, u1, by omega, u3, rfl, rfl, fun i hi => absurd hi (by omega)⟩, hIm, hBo, hMk⟩
end Ops

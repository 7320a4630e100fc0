theorem bt_sm {j : Nat} (hj : j < 256) (i : Nat) (hi : 8 ≤ i) : bt (nI j) i = false := by
  rcases Nat.lt_or_ge i 32 with q | q
  · rw [bt_nI q]
    exact Nat.testBit_lt_two_pow (Nat.lt_of_lt_of_le hj (Nat.pow_le_pow_right (n := 2) (by decide) hi))
  · exact b_big q
section Laws
variable {n : Nat} {pi lo de fr to : Nat → Nat} {of : Nat → Int32} {N : Nat}
/-! a law tried, or a pitch: the whole night from the evening on -/
theorem night_both (hN : 70000 ≤ N) (M : MOk n pi lo de fr to of) {tu : Int32} {el ed ja es : Nat → Int32} (E : EarOk n tu pi lo de fr to el ed ja es) {row crews : Nat → Int32} (hc : Cr n row crews) (hca : CaOk n row) (tr : Nat → Int32) :
    ∃ (r : Int32) (t : Nat → Int32), F_X0_morning N 4 el ed ja es crews 0 0 = some r ∧ F_X9_morning N (nI n) tu of (upd (upd (va_cpy row tr 0 0 10) 8 0) 9 0) = some (r, t) := by
  have h8 := M.1
  obtain ⟨r, t, e1, e2, _⟩ := mo_both hN M E (tr := upd (upd (va_cpy row tr 0 0 10) 8 0) 9 0) (h := 0) hc hca (fun t ht => by rw [pk_un (by omega), pk_un (by omega), cpy_in0 (by omega)]) (by omega) pk_us
  rw [show upd (upd (va_cpy row tr 0 0 10) 8 0) 9 0 8 = 0 by rw [pk_un (by omega), pk_us]] at e1
  exact ⟨r, t, e1, e2⟩
theorem laws_both (hN : 70000 ≤ N) (M : MOk n pi lo de fr to of) {tp tl td : Nat → Int32} (hp : ∀ s, s < n → tp s = nI (pi s)) (hl : ∀ s, s < n → tl s = nI (lo s)) (hd : ∀ s, s < n → td s = nI (de s)) (tf tt ep el ed es : Nat → Int32) {row crews : Nat → Int32} (hc : Cr n row crews) (hca : CaOk n row) (p1 p2 T : Int32) :
    ∀ (m f j : Nat) (ja tr : Nat → Int32) (tune x3 x4 : Int32), j + m = 128 → m < f → (x4 = -1 ∨ ∃ b, b < 128 ∧ x4 = nI b) →
    ∃ r ja' tr', F_X8_laws_42 N (nI n) tp tl td tf tt crews p1 p2 f (nI n) (va_cpy tp ep 0 0 n) (va_cpy tl el 0 0 n) (va_cpy td ed 0 0 n) ja (snF fr to (va_cpy (fun _ => 0) es 0 0 12) n) x3 x4 (nI j) = some (r, nI n, va_cpy tp ep 0 0 n, va_cpy tl el 0 0 n, va_cpy td ed 0 0 n, ja', snF fr to (va_cpy (fun _ => 0) es 0 0 12) n) ∧
      F_X9_laws_37 N (nI n) of row p1 p2 f tune tr T x3 x4 (nI j) = some (r, T, tr') := by
  have h8 := M.1
  intro m
  induction m with
  | zero =>
    intro f j ja tr tune x3 x4 hi hf hx
    obtain ⟨g, rfl⟩ : ∃ g, f = g + 1 := ⟨f - 1, by omega⟩
    have e1 : j = 128 := by omega
    subst e1
    have u1 : F_X8_laws_42 N (nI n) tp tl td tf tt crews p1 p2 (g + 1) (nI n) (va_cpy tp ep 0 0 n) (va_cpy tl el 0 0 n) (va_cpy td ed 0 0 n) ja (snF fr to (va_cpy (fun _ => 0) es 0 0 12) n) x3 x4 (nI 128) = if p2 = 0 then some (x3, nI n, va_cpy tp ep 0 0 n, va_cpy tl el 0 0 n, va_cpy td ed 0 0 n, ja, snF fr to (va_cpy (fun _ => 0) es 0 0 12) n) else some (x4, nI n, va_cpy tp ep 0 0 n, va_cpy tl el 0 0 n, va_cpy td ed 0 0 n, ja, snF fr to (va_cpy (fun _ => 0) es 0 0 12) n) := by
      show B_X8_laws_42 N (nI n) tp tl td tf tt crews p1 p2 (F_X8_laws_42 N (nI n) tp tl td tf tt crews p1 p2 g) (nI n) (va_cpy tp ep 0 0 n) (va_cpy tl el 0 0 n) (va_cpy td ed 0 0 n) ja (snF fr to (va_cpy (fun _ => 0) es 0 0 12) n) x3 x4 (nI 128) = _
      unfold B_X8_laws_42
      rw [if_pos (ge128 (Nat.le_refl _) (by omega))]
    have u2 : F_X9_laws_37 N (nI n) of row p1 p2 (g + 1) tune tr T x3 x4 (nI 128) = if p2 = 0 then some (x3, T, tr) else some (x4, T, tr) := by
      show B_X9_laws_37 N (nI n) of row p1 p2 (F_X9_laws_37 N (nI n) of row p1 p2 g) tune tr T x3 x4 (nI 128) = _
      unfold B_X9_laws_37
      rw [if_pos (ge128 (Nat.le_refl _) (by omega))]
    rw [u1, u2]
    by_cases z : p2 = 0
    · rw [if_pos z, if_pos z]; exact ⟨_, _, _, rfl, rfl⟩
    · rw [if_neg z, if_neg z]; exact ⟨_, _, _, rfl, rfl⟩
  | succ m ih =>
    intro f j ja tr tune x3 x4 hi hf hx
    obtain ⟨g, rfl⟩ : ∃ g, f = g + 1 := ⟨f - 1, by omega⟩
    have E : EarOk n (nI j) pi lo de fr to (va_cpy tl el 0 0 n) (va_cpy td ed 0 0 n) (va_cpy (jaF n (nI j) pi) ja 0 0 n) (snF fr to (va_cpy (fun _ => 0) es 0 0 12) n) := ear_made h8 hl hd
    obtain ⟨r, t, z1, z2⟩ := night_both hN M E hc hca tr
    have ht := v_X0_tune hN h8 (fun s hs => (M.2 s hs).2.2.2.2.2.1) (ep := va_cpy tp ep 0 0 n) (fun s hs => by rw [cpy_in0 hs]; exact hp s hs) ja (tu := nI j)
    have next : ∀ x3 x4, (x4 = -1 ∨ ∃ b, b < 128 ∧ x4 = nI b) → ∃ r ja' tr', F_X8_laws_42 N (nI n) tp tl td tf tt crews p1 p2 g (nI n) (va_cpy tp ep 0 0 n) (va_cpy tl el 0 0 n) (va_cpy td ed 0 0 n) (va_cpy (jaF n (nI j) pi) ja 0 0 n) (snF fr to (va_cpy (fun _ => 0) es 0 0 12) n) x3 x4 (nI (j + 1)) = some (r, nI n, va_cpy tp ep 0 0 n, va_cpy tl el 0 0 n, va_cpy td ed 0 0 n, ja', snF fr to (va_cpy (fun _ => 0) es 0 0 12) n) ∧ F_X9_laws_37 N (nI n) of row p1 p2 g (nI j) (r, t).2 T x3 x4 (nI (j + 1)) = some (r, T, tr') := fun x3 x4 hx => ih g (j + 1) _ _ _ _ _ (by omega) (by omega) hx
    rw [show F_X8_laws_42 N (nI n) tp tl td tf tt crews p1 p2 (g + 1) (nI n) (va_cpy tp ep 0 0 n) (va_cpy tl el 0 0 n) (va_cpy td ed 0 0 n) ja (snF fr to (va_cpy (fun _ => 0) es 0 0 12) n) x3 x4 (nI j) = B_X8_laws_42 N (nI n) tp tl td tf tt crews p1 p2 (F_X8_laws_42 N (nI n) tp tl td tf tt crews p1 p2 g) (nI n) (va_cpy tp ep 0 0 n) (va_cpy tl el 0 0 n) (va_cpy td ed 0 0 n) ja (snF fr to (va_cpy (fun _ => 0) es 0 0 12) n) x3 x4 (nI j) from rfl, show F_X9_laws_37 N (nI n) of row p1 p2 (g + 1) tune tr T x3 x4 (nI j) = B_X9_laws_37 N (nI n) of row p1 p2 (F_X9_laws_37 N (nI n) of row p1 p2 g) tune tr T x3 x4 (nI j) from rfl]
    unfold B_X8_laws_42 B_X9_laws_37
    rw [if_neg (nge128 (by omega)), if_neg (nge128 (by omega)), bnd_of ht, bnd_of z1, bnd_of (v_X9_begin hN row tr), bnd_of z2]
    by_cases z : r = p1
    · rw [if_pos z, if_pos (show (r, t).1 = p1 from z)]
      rcases hx with rfl | ⟨b, hb, rfl⟩
      · simp only [nm_def, i_s]
        rw [if_pos trivial, if_pos (show (-1 : Int32) < 0 by decide)]
        exact next _ _ (Or.inr ⟨j, by omega, rfl⟩)
      · simp only [nm_def, i_s]
        rw [if_neg (i_m1 (by omega)), if_neg (i_n0 (by omega)), bnd_of (v_J6_bitCount (bt_sm (by omega))), bnd_of (v_J6_bitCount (bt_sm (by omega))), bnd_of (v_X9_bits hN _), bnd_of (v_X9_bits hN _)]
        by_cases w : nI (cnt (bt (nI b)) 8) ≤ nI (cnt (bt (nI j)) 8)
        · rw [if_pos w, if_pos w]
          exact next _ _ (Or.inr ⟨b, hb, rfl⟩)
        · rw [if_neg w, if_neg w]
          exact next _ _ (Or.inr ⟨j, by omega, rfl⟩)
    · rw [if_neg z, if_neg (show ¬ (r, t).1 = p1 from z)]
      simp only [nm_def, i_s]
      exact next _ _ hx
end Laws
section Ops
variable {si : Nat → Int32} {fa : Nat → Nat → Int32} {sm : Nat → Int32} {fm : Nat → Nat → Int32} {N : Nat}
theorem op_laws (hN : 70000 ≤ N) (I : Inv si fa sm fm) (p1 p2 : Int32) : ∃ r x20 f26 f27 f28 f29 f30 m15 g9, F_X8_laws N (si 12) (si 20) (fa 5) (fa 6) (fa 7) (fa 8) (fa 9) (fa 26) (fa 27) (fa 28) (fa 29) (fa 30) (fa 32) p1 p2 = some (r, x20, f26, f27, f28, f29, f30) ∧ F_X9_laws N (sm 13) (sm 15) (fm 6) (fm 8) (fm 9) p1 p2 = some (r, m15, g9) ∧ Inv (upd si 20 x20) (va_up (va_up (va_up (va_up (va_up fa 26 f26) 27 f27) 28 f28) 29 f29) 30 f30) (upd sm 15 m15) (va_up fm 9 g9) := by
  obtain ⟨hTx, hF, n, c, cp, tu, pi, lo, de, fr, to, be, hTr, hEa, hNt, hI⟩ := id I
  obtain ⟨a1, a2, a3, M, T, a6, a7, a8, a9, a10, a11, a12, a13, a14, a15⟩ := id hTr
  have h8 := M.1
  have same : ∀ x20 f26 f27 f28 f29 f30 g9, Inv (upd si 20 x20) (va_up (va_up (va_up (va_up (va_up fa 26 f26) 27 f27) 28 f28) 29 f29) 30 f30) (upd sm 15 (sm 15)) (va_up fm 9 g9) := fun _ _ _ _ _ _ _ => ⟨hTx, hF, n, c, cp, tu, pi, lo, de, fr, to, be, hTr, hEa, hNt, hI⟩
  unfold F_X8_laws F_X9_laws
  rw [a7, a11]
  rcases no_set h8 p1 with ⟨e1, e2⟩ | ⟨e1, e2, hb⟩
  · rw [bnd_of e1, bnd_of e2, if_neg (show ¬ (1 : Int32) = 0 by decide), if_pos (show (0 : Int32) = 0 from rfl)]
    exact ⟨_, _, _, _, _, _, _, _, _, rfl, rfl, same _ _ _ _ _ _ _⟩
  rw [bnd_of e1, bnd_of e2, if_neg (show ¬ (1 : Int32) = 0 by decide), if_pos (show (0 : Int32) = 0 from rfl)]
  rcases in_cases p2 (m := 1) (by omega) with ⟨q1, q2⟩ | ⟨j, j1, j2, rfl, q1, q2⟩ | ⟨j, j1, rfl, q1, q2⟩
  · have q2 : F_X9_in p2 0 1 = some 0 := q2
    rw [if_pos q1, bnd_of q2, if_pos rfl]
    exact ⟨_, _, _, _, _, _, _, _, _, rfl, rfl, same _ _ _ _ _ _ _⟩
  · have q2 : F_X9_in (nI j) 0 1 = some 0 := q2
    rw [if_neg q1, if_neg (nle1 j1 j2), bnd_of q2, if_pos rfl]
    exact ⟨_, _, _, _, _, _, _, _, _, rfl, rfl, same _ _ _ _ _ _ _⟩
  have q2 : F_X9_in (nI j) 0 1 = some 1 := q2
  rw [if_neg q1, if_pos (le1 j1), bnd_of q2, if_neg (show ¬ (1 : Int32) = 0 by decide), bnd_of (v_X0_listen hN M T _ _ _ _ _)]
  obtain ⟨r, ja', tr', z1, z2⟩ := laws_both hN M (fun s hs => (T s hs).1) (fun s hs => (T s hs).2.1) (fun s hs => (T s hs).2.2.1) (fa 8) (fa 9) (fa 26) (fa 27) (fa 28) (fa 30) hNt.1 (NtOk_ca a1 hNt) p1 (nI j) (sm 15) 128 N 0 (fa 29) (fm 9) (sm 15) 0 (-1) (by omega) (by omega) (Or.inl rfl)
  exact ⟨_, _, _, _, _, _, _, _, _, z1, z2, same _ _ _ _ _ _ _⟩
end Ops

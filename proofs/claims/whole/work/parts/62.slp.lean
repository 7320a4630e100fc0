/-! clauses s and c, both -/
section Sleepers
variable {len N : Nat} {T : Nat → Nat} {t1 t2 : Nat → Int32}
theorem nle_of {v b : Nat} (hb : b < 2147483648) (hv : v < 2147483648) (h : nI v ≤ nI b) : v ≤ b := by
  rcases Nat.lt_or_ge b v with w | w
  · exact absurd h (i_nle w hv)
  · exact w
def bS (k : Nat) : Int32 := if k = 0 then 11 else if k = 1 then 9 else if k = 2 then 40 else 12
theorem slp_step (l pos ta tk nu fg fa fi rs s5 : Int32) (rr rm : Nat → Int32) (g : Nat) {k : Nat} (hk : k < 5) : F_X9_isSleeper_24 N l t2 (g + 1) pos ta tk nu fg fa fi rs rr rm s5 (nI k) = B_X9_isSleeper_62 N l t2 (F_X9_isSleeper_24 N l t2 g) pos ta tk nu fg fa fi rs rr rm s5 (nI k) 0 (bS k) := by
  show B_X9_isSleeper_24 N l t2 (F_X9_isSleeper_24 N l t2 g) pos ta tk nu fg fa fi rs rr rm s5 (nI k) = _
  unfold B_X9_isSleeper_24
  rw [if_neg (nge5 hk)]
  have hc : k = 0 ∨ k = 1 ∨ k = 2 ∨ k = 3 ∨ k = 4 := by omega
  rcases hc with rfl | rfl | rfl | rfl | rfl
  · rw [if_pos (show nI 0 = (0 : Int32) from rfl)]; rfl
  · rw [if_neg (show ¬ nI 1 = (0 : Int32) by decide), if_pos (show nI 1 = (1 : Int32) from rfl)]; rfl
  · rw [if_neg (show ¬ nI 2 = (0 : Int32) by decide), if_neg (show ¬ nI 2 = (1 : Int32) by decide), if_pos (show nI 2 = (2 : Int32) from rfl)]; rfl
  · rw [if_neg (show ¬ nI 3 = (0 : Int32) by decide), if_neg (show ¬ nI 3 = (1 : Int32) by decide), if_neg (show ¬ nI 3 = (2 : Int32) by decide)]; rfl
  · rw [if_neg (show ¬ nI 4 = (0 : Int32) by decide), if_neg (show ¬ nI 4 = (1 : Int32) by decide), if_neg (show ¬ nI 4 = (2 : Int32) by decide)]; rfl
theorem slp_ok {l pos ta tk nu fg fa fi rs : Int32} (rr rm : Nat → Int32) (g : Nat) {n k p' x v : Nat} {y : Int32} (hk : k < 5) (hn : n < 8) (e : F_X9_isNumber N l pos ta tk nu fg fa fi t2 0 (bS k) = some (1, nI p', nI x, -1, nI v, y, fa, fi)) : F_X9_isSleeper_24 N l t2 (g + 1) pos ta tk nu fg fa fi rs rr rm (nI (5 * n)) (nI k) = F_X9_isSleeper_24 N l t2 g (nI p') (nI x) (-1) (nI v) y fa fi rs (upd rr (5 * n + k) (nI v)) rm (nI (5 * n)) (nI (k + 1)) := by
  rw [slp_step l pos ta tk nu fg fa fi rs _ rr rm g hk]
  unfold B_X9_isSleeper_62
  rw [bnd_of e, if_neg (show ¬ ((1 : Int32), nI p', nI x, (-1 : Int32), nI v, y, fa, fi).1 = 0 from (by decide : ¬ (1 : Int32) = 0)), nI_add, wr_nI (by omega) (by omega), nm_def, i_s]
theorem slp_no {l pos ta tk nu fg fa fi rs : Int32} (rr rm : Nat → Int32) (g : Nat) {n k : Nat} {y1 y2 y3 y4 y5 y6 y7 : Int32} (hk : k < 5) (e : F_X9_isNumber N l pos ta tk nu fg fa fi t2 0 (bS k) = some (0, y1, y2, y3, y4, y5, y6, y7)) : F_X9_isSleeper_24 N l t2 (g + 1) pos ta tk nu fg fa fi rs rr rm (nI (5 * n)) (nI k) = some (0, y1, y2, y3, y4, y5, y6, y7, rs, rr, rm) := by
  rw [slp_step l pos ta tk nu fg fa fi rs _ rr rm g hk]
  unfold B_X9_isSleeper_62
  rw [bnd_of e]
  rfl
theorem slp_82 (hN : 70000 ≤ N) (X : TxT len T t1 t2) {p : Nat} (hp : p ≤ len) {n : Nat} (hn : n < 8) {ft : Int32} (hf : ft ≠ 0) (fp np : Int32) (f13 f14 f15 f16 f17 : Nat → Int32) (a b : Int32) : B_X6_readSleeper_82 N (nI len) t1 fp ft (nI p) np (nI n) f13 f14 f15 f16 f17 (nI n) a b = some (fp, ft, nI (sk T len p), np, nI (n + 1), f13, f14, f15, upd f16 n a, upd f17 n b) := by
  unfold B_X6_readSleeper_82
  rw [bnd_of (layI_in hn (by omega)), bnd_of (layI_in hn (by omega)), nm_def, i_s, bnd_of (com_bad hN X hp hf _ _)]
theorem slp_tail (hN : 70000 ≤ N) (X : TxT len T t1 t2) {p : Nat} (hp : p ≤ len) {n : Nat} (hn : n < 8) {ft : Int32} (hf : ft ≠ 0) (fp np : Int32) (f13 f14 f15 f16 f17 : Nat → Int32) (a b : Int32) : (if a ≤ b then B_X6_readSleeper_82 N (nI len) t1 fp ft (nI p) np (nI n) f13 f14 f15 f16 f17 (nI n) a b else bnd (F_X6_fail fp ft 4 np) (fun o13 => B_X6_readSleeper_82 N (nI len) t1 o13.1 o13.2 (nI p) np (nI n) f13 f14 f15 f16 f17 (nI n) a b)) = some (fp, ft, nI (sk T len p), np, nI (n + 1), f13, f14, f15, upd f16 n a, upd f17 n b) := by
  by_cases h : a ≤ b
  · rw [if_pos h]
    exact slp_82 hN X hp hn hf _ _ _ _ _ _ _ _ _
  · rw [if_neg h, bnd_of (fail_1 hf _ _ _)]
    exact slp_82 hN X hp hn hf _ _ _ _ _ _ _ _ _
theorem slp_both (hN : 70000 ≤ N) (X : TxT len T t1 t2) {p : Nat} (hp : p ≤ len) {n : Nat} (hn : n < 8) (fp fa fi np ta tk nu fg : Int32) (f13 f14 f15 f16 f17 rr rm : Nat → Int32) :
    (∃ (f x p' : Nat) (r1 r2 : Int32) (R1 R2 R3 R4 R5 : Nat → Int32) (y1 y2 y3 y4 y5 y6 : Int32) (Y1 Y2 : Nat → Int32), (1 ≤ f ∧ f ≤ 4) ∧ p' ≤ len ∧ F_X6_readSleeper N (nI len) fp 0 (nI p) np t1 (nI n) f13 f14 f15 f16 f17 = some (nI x, nI f, nI p', r1, r2, R1, R2, R3, R4, R5) ∧ F_X9_isSleeper N (nI len) (nI p) ta tk nu fg fa fi (nI n) t2 rr rm = some (0, y1, y2, y3, y4, y5, nI x, nI f, y6, Y1, Y2)) ∨
    (∃ (p' v0 v1 v2 v3 v4 : Nat) (r1 y2 y3 y4 y5 : Int32), p < p' ∧ p' ≤ len ∧ v0 ≤ 11 ∧ v1 ≤ 9 ∧ v2 ≤ 40 ∧ v3 ≤ v4 ∧ v4 ≤ 12 ∧ F_X6_readSleeper N (nI len) fp 0 (nI p) np t1 (nI n) f13 f14 f15 f16 f17 = some (fp, 0, nI p', r1, nI (n + 1), upd f13 n (nI v0), upd f14 n (nI v1), upd f15 n (nI v2), upd f16 n (nI v3), upd f17 n (nI v4)) ∧ F_X9_isSleeper N (nI len) (nI p) ta tk nu fg fa fi (nI n) t2 rr rm = some (1, nI p', y2, y3, y4, y5, fa, fi, nI (n + 1), upd (upd (upd (upd (upd rr (5 * n + 0) (nI v0)) (5 * n + 1) (nI v1)) (5 * n + 2) (nI v2)) (5 * n + 3) (nI v3)) (5 * n + 4) (nI v4), upd rm n (-1))) := by
  obtain ⟨N', hN'⟩ : ∃ N', N = N' + 1 + 1 + 1 + 1 + 1 + 1 := ⟨N - 6, by omega⟩
  unfold F_X6_readSleeper F_X9_isSleeper
  rw [if_neg (ne8 (by omega) (by omega)), nm_def, show (5 : Int32) * nI n = nI (5 * n) from i_of50]
  have fuel : ∀ pos ta tk nu fg fa fi rs rr rm s5 x2, F_X9_isSleeper_24 N (nI len) t2 N pos ta tk nu fg fa fi rs rr rm s5 x2 = F_X9_isSleeper_24 N (nI len) t2 (N' + 1 + 1 + 1 + 1 + 1 + 1) pos ta tk nu fg fa fi rs rr rm s5 x2 := fun _ _ _ _ _ _ _ _ _ _ _ _ => by rw [← hN']
  rw [fuel]
  show (∃ (f x p' : Nat) (r1 r2 : Int32) (R1 R2 R3 R4 R5 : Nat → Int32) (y1 y2 y3 y4 y5 y6 : Int32) (Y1 Y2 : Nat → Int32), (1 ≤ f ∧ f ≤ 4) ∧ p' ≤ len ∧ _ ∧ F_X9_isSleeper_24 N (nI len) t2 (N' + 1 + 1 + 1 + 1 + 1 + 1) (nI p) ta tk nu fg fa fi (nI n) rr rm (nI (5 * n)) (nI 0) = some (0, y1, y2, y3, y4, y5, nI x, nI f, y6, Y1, Y2)) ∨ (∃ (p' v0 v1 v2 v3 v4 : Nat) (r1 y2 y3 y4 y5 : Int32), p < p' ∧ p' ≤ len ∧ v0 ≤ 11 ∧ v1 ≤ 9 ∧ v2 ≤ 40 ∧ v3 ≤ v4 ∧ v4 ≤ 12 ∧ _ ∧ F_X9_isSleeper_24 N (nI len) t2 (N' + 1 + 1 + 1 + 1 + 1 + 1) (nI p) ta tk nu fg fa fi (nI n) rr rm (nI (5 * n)) (nI 0) = some (1, nI p', y2, y3, y4, y5, fa, fi, nI (n + 1), upd (upd (upd (upd (upd rr (5 * n + 0) (nI v0)) (5 * n + 1) (nI v1)) (5 * n + 2) (nI v2)) (5 * n + 3) (nI v3)) (5 * n + 4) (nI v4), upd rm n (-1)))
  have n0 := num_both hN X hp 0 11 fp np fa fi ta tk nu fg
  rcases n0 with ⟨v, f, x, p', np', y1, y2, y3, y4, y5, hf, hp', e1, e2⟩ | ⟨v0, x0, p0, y0, a0, b0, c0, d0, g0, i0, j0⟩
  · have hfb : 1 ≤ f ∧ f ≤ 4 := by omega
    rw [slp_no (n := n) rr rm _ (k := 0) (by omega) e2, bnd_of e1, bnd_of (layI_in hn (by omega)), bnd_of (num_bad hN X hp' (fl_ne hfb) _ _ _ _), bnd_of (layI_in hn (by omega)), bnd_of (num_bad hN X (sk_spec hp').2.1 (fl_ne hfb) _ _ _ _), bnd_of (layI_in hn (by omega)), bnd_of (num_bad hN X (sk_spec (sk_spec hp').2.1).2.1 (fl_ne hfb) _ _ _ _), bnd_of (num_bad hN X (sk_spec (sk_spec (sk_spec hp').2.1).2.1).2.1 (fl_ne hfb) _ _ _ _)]
    exact Or.inl ⟨f, x, _, _, _, _, _, _, _, _, _, _, _, _, _, _, _, _, hfb, (sk_spec (sk_spec (sk_spec (sk_spec (sk_spec hp').2.1).2.1).2.1).2.1).2.1, slp_tail hN X (sk_spec (sk_spec (sk_spec (sk_spec hp').2.1).2.1).2.1).2.1 hn (fl_ne hfb) _ _ _ _ _ _ _ _ _, rfl⟩
  rw [slp_ok rr rm _ (k := 0) (by omega) hn j0, bnd_of i0, bnd_of (layI_in hn (by omega))]
  have n1 := num_both hN X b0 0 9 fp (nI x0) fa fi (nI x0) (-1) (nI v0) y0
  rcases n1 with ⟨v, f, x, p', np', y1, y2, y3, y4, y5, hf, hp', e1, e2⟩ | ⟨v1, x1, p1, y1, a1, b1, c1, d1, g1, i1, j1⟩
  · have hfb : 1 ≤ f ∧ f ≤ 4 := by omega
    rw [slp_no (n := n) (upd rr (5 * n + 0) (nI v0)) rm _ (k := 1) (by omega) e2, bnd_of e1, bnd_of (layI_in hn (by omega)), bnd_of (num_bad hN X hp' (fl_ne hfb) _ _ _ _), bnd_of (layI_in hn (by omega)), bnd_of (num_bad hN X (sk_spec hp').2.1 (fl_ne hfb) _ _ _ _), bnd_of (num_bad hN X (sk_spec (sk_spec hp').2.1).2.1 (fl_ne hfb) _ _ _ _)]
    exact Or.inl ⟨f, x, _, _, _, _, _, _, _, _, _, _, _, _, _, _, _, _, hfb, (sk_spec (sk_spec (sk_spec (sk_spec hp').2.1).2.1).2.1).2.1, slp_tail hN X (sk_spec (sk_spec (sk_spec hp').2.1).2.1).2.1 hn (fl_ne hfb) _ _ _ _ _ _ _ _ _, rfl⟩
  rw [slp_ok (upd rr (5 * n + 0) (nI v0)) rm _ (k := 1) (by omega) hn j1, bnd_of i1, bnd_of (layI_in hn (by omega))]
  have n2 := num_both hN X b1 0 40 fp (nI x1) fa fi (nI x1) (-1) (nI v1) y1
  rcases n2 with ⟨v, f, x, p', np', y1, y2, y3, y4, y5, hf, hp', e1, e2⟩ | ⟨v2, x2, p2, y2, a2, b2, c2, d2, g2, i2, j2⟩
  · have hfb : 1 ≤ f ∧ f ≤ 4 := by omega
    rw [slp_no (n := n) (upd (upd rr (5 * n + 0) (nI v0)) (5 * n + 1) (nI v1)) rm _ (k := 2) (by omega) e2, bnd_of e1, bnd_of (layI_in hn (by omega)), bnd_of (num_bad hN X hp' (fl_ne hfb) _ _ _ _), bnd_of (num_bad hN X (sk_spec hp').2.1 (fl_ne hfb) _ _ _ _)]
    exact Or.inl ⟨f, x, _, _, _, _, _, _, _, _, _, _, _, _, _, _, _, _, hfb, (sk_spec (sk_spec (sk_spec hp').2.1).2.1).2.1, slp_tail hN X (sk_spec (sk_spec hp').2.1).2.1 hn (fl_ne hfb) _ _ _ _ _ _ _ _ _, rfl⟩
  rw [slp_ok (upd (upd rr (5 * n + 0) (nI v0)) (5 * n + 1) (nI v1)) rm _ (k := 2) (by omega) hn j2, bnd_of i2, bnd_of (layI_in hn (by omega))]
  have n3 := num_both hN X b2 0 12 fp (nI x2) fa fi (nI x2) (-1) (nI v2) y2
  rcases n3 with ⟨v, f, x, p', np', y1, y2, y3, y4, y5, hf, hp', e1, e2⟩ | ⟨v3, x3, p3, y3, a3, b3, c3, d3, g3, i3, j3⟩
  · have hfb : 1 ≤ f ∧ f ≤ 4 := by omega
    rw [slp_no (n := n) (upd (upd (upd rr (5 * n + 0) (nI v0)) (5 * n + 1) (nI v1)) (5 * n + 2) (nI v2)) rm _ (k := 3) (by omega) e2, bnd_of e1, bnd_of (num_bad hN X hp' (fl_ne hfb) _ _ _ _)]
    exact Or.inl ⟨f, x, _, _, _, _, _, _, _, _, _, _, _, _, _, _, _, _, hfb, (sk_spec (sk_spec hp').2.1).2.1, slp_tail hN X (sk_spec hp').2.1 hn (fl_ne hfb) _ _ _ _ _ _ _ _ _, rfl⟩
  rw [slp_ok (upd (upd (upd rr (5 * n + 0) (nI v0)) (5 * n + 1) (nI v1)) (5 * n + 2) (nI v2)) rm _ (k := 3) (by omega) hn j3, bnd_of i3]
  have n4 := num_both hN X b3 0 12 fp (nI x3) fa fi (nI x3) (-1) (nI v3) y3
  rcases n4 with ⟨v, f, x, p', np', y1, y2, y3, y4, y5, hf, hp', e1, e2⟩ | ⟨v4, x4, p4, y4, a4, b4, c4, d4, g4, i4, j4⟩
  · have hfb : 1 ≤ f ∧ f ≤ 4 := by omega
    rw [slp_no (n := n) (upd (upd (upd (upd rr (5 * n + 0) (nI v0)) (5 * n + 1) (nI v1)) (5 * n + 2) (nI v2)) (5 * n + 3) (nI v3)) rm _ (k := 4) (by omega) e2, bnd_of e1]
    exact Or.inl ⟨f, x, _, _, _, _, _, _, _, _, _, _, _, _, _, _, _, _, hfb, (sk_spec hp').2.1, slp_tail hN X hp' hn (fl_ne hfb) _ _ _ _ _ _ _ _ _, rfl⟩
  rw [slp_ok (upd (upd (upd (upd rr (5 * n + 0) (nI v0)) (5 * n + 1) (nI v1)) (5 * n + 2) (nI v2)) (5 * n + 3) (nI v3)) rm _ (k := 4) (by omega) hn j4, bnd_of i4]
  have u0 : v0 ≤ 11 := nle_of (b := 11) (by omega) (by omega) g0
  have u1 : v1 ≤ 9 := nle_of (b := 9) (by omega) (by omega) g1
  have u2 : v2 ≤ 40 := nle_of (b := 40) (by omega) (by omega) g2
  have u4 : v4 ≤ 12 := nle_of (b := 12) (by omega) (by omega) g4
  rw [show F_X9_isSleeper_24 N (nI len) t2 (N' + 1) (nI p4) (nI x4) (-1) (nI v4) y4 fa fi (nI n) (upd (upd (upd (upd (upd rr (5 * n + 0) (nI v0)) (5 * n + 1) (nI v1)) (5 * n + 2) (nI v2)) (5 * n + 3) (nI v3)) (5 * n + 4) (nI v4)) rm (nI (5 * n)) (nI (4 + 1)) = B_X9_isSleeper_24 N (nI len) t2 (F_X9_isSleeper_24 N (nI len) t2 N') (nI p4) (nI x4) (-1) (nI v4) y4 fa fi (nI n) (upd (upd (upd (upd (upd rr (5 * n + 0) (nI v0)) (5 * n + 1) (nI v1)) (5 * n + 2) (nI v2)) (5 * n + 3) (nI v3)) (5 * n + 4) (nI v4)) rm (nI (5 * n)) (nI (4 + 1)) from rfl]
  unfold B_X9_isSleeper_24
  rw [if_pos (ge5 (by omega) (by omega)), show (4 : Int32) = nI 4 from rfl, show (3 : Int32) = nI 3 from rfl, nI_add, nI_add, rd_nI (by omega) (by omega), rd_nI (by omega) (by omega), pk_us, pk_un (by omega), pk_us]
  by_cases w : v3 ≤ v4
  · have hw : nI v3 ≤ nI v4 := i_le w (by omega)
    rw [if_pos (show (nI v3, fp, (0 : Int32), nI p3, nI x3).1 ≤ (nI v4, fp, (0 : Int32), nI p4, nI x4).1 from hw), if_pos hw, wr_nI hn (by omega), nm_def, i_s]
    unfold B_X6_readSleeper_82
    rw [bnd_of (layI_in hn (by omega)), bnd_of (layI_in hn (by omega)), nm_def, i_s]
    rcases end_both hN X b4 fp fa fi (nI x4) (-1) (nI v4) y4 with ⟨q, y1, y2, y3, y5, y6, q1, q2, q3⟩ | ⟨q, y2, y3, y5, y6, q0, q1, q2, q3⟩
    · rw [bnd_of q2, bnd_of q3]
      exact Or.inl ⟨1, q, q, _, _, _, _, _, _, _, _, _, _, _, _, _, _, _, by omega, q1, rfl, rfl⟩
    · rw [bnd_of q2, bnd_of q3]
      exact Or.inr ⟨q, v0, v1, v2, v3, v4, _, _, _, _, _, by omega, q1, u0, u1, u2, w, u4, rfl, rfl⟩
  · have hw : ¬ nI v3 ≤ nI v4 := i_nle (by omega) (by omega)
    rw [if_neg (show ¬ (nI v3, fp, (0 : Int32), nI p3, nI x3).1 ≤ (nI v4, fp, (0 : Int32), nI p4, nI x4).1 from hw), if_neg hw, bnd_of (fail_0 _ _ _)]
    exact Or.inl ⟨4, x4, _, _, _, _, _, _, _, _, _, _, _, _, _, _, _, _, by omega, (sk_spec b4).2.1, slp_82 hN X b4 hn (show (4 : Int32) ≠ 0 by decide) _ _ _ _ _ _ _ _ _, rfl⟩
end Sleepers
section Couples
variable {len N : Nat} {T : Nat → Nat} {t1 t2 : Nat → Int32}
theorem cpl_71 (hN : 70000 ≤ N) (X : TxT len T t1 t2) {p : Nat} (hp : p ≤ len) {ft : Int32} (hf : ft ≠ 0) (sl fp np cp : Int32) (f18 : Nat → Int32) (a b : Int32) : ∃ R, B_X6_readCouple_71 N (nI len) t1 sl fp ft (nI p) np cp f18 a b = some (fp, ft, nI (sk T len p), np, cp + 1, R) := by
  obtain ⟨g, hg⟩ := lay_any (n := 8) (by omega) f18 a b
  obtain ⟨g', hg'⟩ := lay_any (n := 8) (by omega) g b a
  unfold B_X6_readCouple_71
  rw [bnd_of hg, bnd_of hg', nm_def, bnd_of (com_bad hN X hp hf _ _)]
  exact ⟨_, rfl⟩
theorem cpl_fin (hN : 70000 ≤ N) (X : TxT len T t1 t2) {p : Nat} (hp : p ≤ len) {ft : Int32} (hf : ft ≠ 0) (sl fp np cp : Int32) (f18 : Nat → Int32) (a b : Int32) : ∃ R, (if b = a then B_X6_readCouple_62 N (nI len) t1 sl fp ft (nI p) np cp f18 a b else bnd (F_X8_at 8 f18 b) (fun o9 => if o9 = (-1 : Int32) then B_X6_readCouple_71 N (nI len) t1 sl fp ft (nI p) np cp f18 a b else B_X6_readCouple_62 N (nI len) t1 sl fp ft (nI p) np cp f18 a b)) = some (fp, ft, nI (sk T len p), np, cp + 1, R) := by
  obtain ⟨R, hR⟩ := cpl_71 hN X hp hf sl fp np cp f18 a b
  have h62 : B_X6_readCouple_62 N (nI len) t1 sl fp ft (nI p) np cp f18 a b = some (fp, ft, nI (sk T len p), np, cp + 1, R) := by
    unfold B_X6_readCouple_62
    rw [bnd_of (fail_1 hf _ _ _)]
    exact hR
  obtain ⟨z, hz⟩ := at_any (n := 8) (by omega) f18 b
  refine ⟨R, ?_⟩
  rw [bnd_of hz, h62, hR]
  by_cases c : b = a
  · rw [if_pos c]
  · rw [if_neg c]
    by_cases e : z = -1
    · rw [if_pos e]
    · rw [if_neg e]
theorem cpl_33 (hN : 70000 ≤ N) (X : TxT len T t1 t2) {p : Nat} (hp : p ≤ len) {ft : Int32} (hf : ft ≠ 0) (sl fp np cp : Int32) (f18 : Nat → Int32) (a : Int32) : ∃ (q : Nat) (R : Nat → Int32), q ≤ len ∧ B_X6_readCouple_33 N (nI len) t1 sl fp ft (nI p) np cp f18 a = some (fp, ft, nI q, np, cp + 1, R) := by
  have hs := (sk_spec (T := T) hp).2.1
  obtain ⟨R, hR⟩ := cpl_fin hN X hs hf sl fp np cp f18 a 0
  unfold B_X6_readCouple_33
  rw [bnd_of (num_bad hN X hp hf _ _ _ _)]
  exact ⟨_, R, (sk_spec (T := T) hs).2.1, hR⟩
theorem mate_no {l pos ta tk nu fg fa fi rs a : Int32} {rm : Nat → Int32} {y1 y2 y3 y4 y5 y6 y7 : Int32} (e : F_X9_isNumber N l pos ta tk nu fg fa fi t2 0 (rs - 1) = some (0, y1, y2, y3, y4, y5, y6, y7)) : F_X9_isMate N l pos ta tk nu fg fa fi rs t2 rm a = some (0, y1, y2, y3, y4, y5, y6, y7) := by
  unfold F_X9_isMate
  rw [bnd_of e]
  rfl
theorem mate_ok {l pos ta tk nu fg fa fi rs a : Int32} {rm : Nat → Int32} {p' x v : Nat} {y : Int32} (hv : v < 8) (e : F_X9_isNumber N l pos ta tk nu fg fa fi t2 0 (rs - 1) = some (1, nI p', nI x, -1, nI v, y, fa, fi)) (h1 : rm v = -1) (h2 : nI v ≠ a) : F_X9_isMate N l pos ta tk nu fg fa fi rs t2 rm a = some (1, nI p', nI x, -1, nI v, y, fa, fi) := by
  unfold F_X9_isMate
  rw [bnd_of e, if_neg (show ¬ ((1 : Int32), nI p', nI x, (-1 : Int32), nI v, y, fa, fi).1 = 0 from (by decide : ¬ (1 : Int32) = 0)), rd_nI hv (by omega), if_pos h1, if_neg h2]
theorem mate_ko {l pos ta tk nu fg fa fi rs a : Int32} {rm : Nat → Int32} {p' x v : Nat} {y : Int32} (hv : v < 8) (e : F_X9_isNumber N l pos ta tk nu fg fa fi t2 0 (rs - 1) = some (1, nI p', nI x, -1, nI v, y, fa, fi)) (h : rm v ≠ -1 ∨ nI v = a) : F_X9_isMate N l pos ta tk nu fg fa fi rs t2 rm a = some (0, nI p', nI x, -1, nI v, y, nI x, 4) := by
  unfold F_X9_isMate
  rw [bnd_of e, if_neg (show ¬ ((1 : Int32), nI p', nI x, (-1 : Int32), nI v, y, fa, fi).1 = 0 from (by decide : ¬ (1 : Int32) = 0)), rd_nI hv (by omega)]
  by_cases h1 : rm v = -1
  · rw [if_pos h1, if_pos (h.resolve_left (fun z => z h1))]
    rfl
  · rw [if_neg h1]
    rfl
theorem cpl_both (hN : 70000 ≤ N) (X : TxT len T t1 t2) {p : Nat} (hp : p ≤ len) {n cp : Nat} (hn : n ≤ 8) (hcp : cp < 4) (fp fa fi np ta tk nu fg : Int32) {f18 rm : Nat → Int32} (he : ∀ s, s < n → f18 s = rm s) :
    (∃ (f x p' : Nat) (r1 r2 : Int32) (R1 : Nat → Int32) (y1 y2 y3 y4 y5 y6 : Int32) (Y1 : Nat → Int32), (1 ≤ f ∧ f ≤ 4) ∧ p' ≤ len ∧ F_X6_readCouple N (nI len) fp 0 (nI p) np t1 (nI n) (nI cp) f18 = some (nI x, nI f, nI p', r1, r2, R1) ∧ F_X9_isCouple N (nI len) (nI p) ta tk nu fg fa fi (nI n) (nI cp) t2 rm = some (0, y1, y2, y3, y4, y5, nI x, nI f, y6, Y1)) ∨
    (∃ (p' a b : Nat) (r1 y2 y3 y4 y5 : Int32), p < p' ∧ p' ≤ len ∧ a < n ∧ b < n ∧ a ≠ b ∧ rm a = -1 ∧ rm b = -1 ∧ F_X6_readCouple N (nI len) fp 0 (nI p) np t1 (nI n) (nI cp) f18 = some (fp, 0, nI p', r1, nI (cp + 1), upd (upd f18 a (nI b)) b (nI a)) ∧ F_X9_isCouple N (nI len) (nI p) ta tk nu fg fa fi (nI n) (nI cp) t2 rm = some (1, nI p', y2, y3, y4, y5, fa, fi, nI (cp + 1), upd (upd rm a (nI b)) b (nI a))) := by
  have below : ∀ v, v < 1000 → nI v ≤ nI n - 1 → v < n := fun v hv h => by
    rcases Nat.lt_or_ge v n with w | w
    · exact w
    · have := (i_sub1 (z := n) (h := v) (by omega) (by omega)).mpr w
      exact absurd this (not_lt_of_le h)
  unfold F_X6_readCouple F_X9_isCouple
  rw [if_neg (ne4 (by omega) (by omega))]
  rcases num_both hN X hp 0 (nI n - 1) fp np fa fi ta tk nu fg with ⟨v, f, x, p', np', y1, y2, y3, y4, y5, hf, hp', e1, e2⟩ | ⟨a, x, p', y, h1, h2, h3, h4, h5, e1, e2⟩
  · have hfb : 1 ≤ f ∧ f ≤ 4 := by omega
    obtain ⟨z, hz⟩ := at_any (n := 8) (by omega) f18 v
    obtain ⟨q, R, hq, hR⟩ := cpl_33 hN X hp' (fl_ne hfb) (nI n) (nI x) np' (nI cp) f18 v
    rw [bnd_of e1, bnd_of hz, bnd_of (mate_no e2), if_pos (show ((0 : Int32), y1, y2, y3, y4, y5, nI x, nI f).1 = 0 from rfl)]
    by_cases c : z = -1
    · rw [if_pos c]
      exact Or.inl ⟨f, x, q, _, _, R, _, _, _, _, _, _, _, hfb, hq, hR, rfl⟩
    · rw [if_neg c, bnd_of (fail_1 (fl_ne hfb) _ _ _)]
      exact Or.inl ⟨f, x, q, _, _, R, _, _, _, _, _, _, _, hfb, hq, hR, rfl⟩
  have ha := below a h3 h5
  rw [bnd_of e1, bnd_of (atI_in (by omega) (by omega)), he a ha]
  by_cases c : rm a = -1
  case neg =>
    obtain ⟨q, R, hq, hR⟩ := cpl_33 hN X h2 (show (4 : Int32) ≠ 0 by decide) (nI n) (nI x) (nI x) (nI cp) f18 (nI a)
    rw [bnd_of (mate_ko (by omega) e2 (Or.inl c)), if_neg c, bnd_of (fail_0 _ _ _)]
    exact Or.inl ⟨4, x, q, _, _, R, _, _, _, _, _, _, _, by omega, hq, hR, rfl⟩
  rw [bnd_of (mate_ok (by omega) e2 c (show nI a ≠ (-1 : Int32) from i_m1 (by omega))), if_pos c, if_neg (show ¬ ((1 : Int32), nI p', nI x, (-1 : Int32), nI a, y, fa, fi).1 = 0 from (by decide : ¬ (1 : Int32) = 0))]
  unfold B_X6_readCouple_33
  rcases num_both hN X h2 0 (nI n - 1) fp (nI x) fa fi (nI x) (-1) (nI a) y with ⟨v, f, x', p'', np', y1, y2, y3, y4, y5, hf, hp', k1, k2⟩ | ⟨b, x', p'', y', g1, g2, g3, g4, g5, k1, k2⟩
  · have hfb : 1 ≤ f ∧ f ≤ 4 := by omega
    obtain ⟨R, hR⟩ := cpl_fin hN X hp' (fl_ne hfb) (nI n) (nI x') np' (nI cp) f18 (nI a) v
    rw [bnd_of k1, bnd_of (mate_no k2), if_pos (show ((0 : Int32), y1, y2, y3, y4, y5, nI x', nI f).1 = 0 from rfl)]
    exact Or.inl ⟨f, x', _, _, _, R, _, _, _, _, _, _, _, hfb, (sk_spec hp').2.1, hR, rfl⟩
  have hb := below b g3 g5
  rw [bnd_of k1]
  obtain ⟨R, hR⟩ := cpl_71 hN X g2 (show (4 : Int32) ≠ 0 by decide) (nI n) (nI x') (nI x') (nI cp) f18 (nI a) (nI b)
  have h62 : B_X6_readCouple_62 N (nI len) t1 (nI n) fp 0 (nI p'') (nI x') (nI cp) f18 (nI a) (nI b) = some (nI x', 4, nI (sk T len p''), nI x', nI cp + 1, R) := by
    unfold B_X6_readCouple_62
    rw [bnd_of (fail_0 _ _ _)]
    exact hR
  by_cases e : b = a
  · rw [bnd_of (mate_ko (by omega) k2 (Or.inr (by rw [e]))), if_pos (show (nI b, fp, (0 : Int32), nI p'', nI x').1 = nI a by rw [e])]
    exact Or.inl ⟨4, x', _, _, _, R, _, _, _, _, _, _, _, by omega, (sk_spec g2).2.1, h62, rfl⟩
  have hba : nI b ≠ nI a := i_ne (by omega) (by omega) e
  rw [if_neg (show ¬ (nI b, fp, (0 : Int32), nI p'', nI x').1 = nI a from hba), bnd_of (atI_in (by omega) (by omega)), he b hb]
  by_cases c2 : rm b = -1
  case neg =>
    rw [bnd_of (mate_ko (by omega) k2 (Or.inl c2)), if_neg c2]
    exact Or.inl ⟨4, x', _, _, _, R, _, _, _, _, _, _, _, by omega, (sk_spec g2).2.1, h62, rfl⟩
  rw [bnd_of (mate_ok (by omega) k2 c2 hba), if_pos c2, if_neg (show ¬ ((1 : Int32), nI p'', nI x', (-1 : Int32), nI b, y', fa, fi).1 = 0 from (by decide : ¬ (1 : Int32) = 0)), wr_nI (by omega) (by omega), wr_nI (by omega) (by omega), nm_def]
  unfold B_X6_readCouple_71
  rw [bnd_of (layI_in (by omega) (by omega)), bnd_of (layI_in (by omega) (by omega)), nm_def, i_s]
  rcases end_both hN X g2 fp fa fi (nI x') (-1) (nI b) y' with ⟨q, y1, y2, y3, y5, y6, q1, q2, q3⟩ | ⟨q, y2, y3, y5, y6, q0, q1, q2, q3⟩
  · rw [bnd_of q2, bnd_of q3]
    exact Or.inl ⟨1, q, q, _, _, _, _, _, _, _, _, _, _, by omega, q1, rfl, rfl⟩
  · rw [bnd_of q2, bnd_of q3]
    exact Or.inr ⟨q, a, b, _, _, _, _, _, by omega, q1, ha, hb, fun z => e z.symm, c, c2, rfl, rfl⟩
end Couples

/-! the first set pitch, scanning up -/
def ffD (x : Int32) : Nat → Int32
  | 0 => -1
  | i + 1 => if 0 ≤ ffD x i then ffD x i else if bt x i = true then nI i else ffD x i
def grD (x : Int32) : Nat → Int32
  | 0 => -1
  | i + 1 => if bt x i = true then nI i else grD x i
theorem ffD_cases (x : Int32) : ∀ i, i ≤ 12 → (ffD x i = -1 ∧ ∀ j, j < i → bt x j = false) ∨ ∃ k, k < i ∧ ffD x i = nI k ∧ bt x k = true ∧ ∀ j, j < k → bt x j = false
  | 0, _ => Or.inl ⟨rfl, fun j hj => absurd hj (by omega)⟩
  | i + 1, hi => by
    rw [ffD]
    rcases ffD_cases x i (by omega) with ⟨h1, h2⟩ | ⟨k, h1, h2, h3, h4⟩
    · rw [h1, if_neg (show ¬ (0 : Int32) ≤ -1 by decide)]
      by_cases w : bt x i = true
      · rw [if_pos w]
        exact Or.inr ⟨i, by omega, rfl, w, h2⟩
      · have w2 : bt x i = false := by simpa using w
        rw [if_neg w]
        refine Or.inl ⟨rfl, fun j hj => ?_⟩
        by_cases e : j = i
        · rw [e]; exact w2
        · exact h2 j (by omega)
    · rw [h2, if_pos (ge0 (i := k) (Nat.zero_le _) (by omega))]
      exact Or.inr ⟨k, by omega, rfl, h3, h4⟩
theorem ffD_ls (x : Int32) : ffD x 12 = lsD x 12 := by
  rcases ffD_cases x 12 (Nat.le_refl _) with ⟨h1, h2⟩ | ⟨k, h1, h2, h3, h4⟩
  · rw [h1, lsD_no h2 12 (Nat.le_refl _)]
  · rw [h2, lsD_first h1 h3 h4 12 (Nat.le_refl _) (by omega)]
theorem grD_cases (x : Int32) : ∀ i, i ≤ 12 → (grD x i = -1 ∧ ∀ j, j < i → bt x j = false) ∨ ∃ k, k < i ∧ grD x i = nI k ∧ bt x k = true
  | 0, _ => Or.inl ⟨rfl, fun j hj => absurd hj (by omega)⟩
  | i + 1, hi => by
    rw [grD]
    by_cases w : bt x i = true
    · rw [if_pos w]
      exact Or.inr ⟨i, by omega, rfl, w⟩
    · have w2 : bt x i = false := by simpa using w
      rw [if_neg w]
      rcases grD_cases x i (by omega) with ⟨h1, h2⟩ | ⟨k, h1, h2, h3⟩
      · refine Or.inl ⟨h1, fun j hj => ?_⟩
        by_cases e : j = i
        · rw [e]; exact w2
        · exact h2 j (by omega)
      · exact Or.inr ⟨k, by omega, h2, h3⟩
section Pitches
variable {n : Nat} {tu : Int32} {pi lo de fr to : Nat → Nat} {of : Nat → Int32} {N : Nat}
theorem test_scan (tu : Int32) {a b : Nat} (ha : a < 12) (hb : b < 12) (hab : a ≠ b) (chord : Int32) (s1 : Int32) (g1 of tr : Nat → Int32) (p1 p2 p3 : Int32) : ∀ m f v, v + m = 12 → m < f → ∃ r, F_X8_testPitch_46 N tu chord f (nI a) (nI b) (nI v) = some r ∧ F_X9_pitches_114 N s1 tu g1 p1 p2 p3 f of tr (nI a) (nI b) (nI v) = some (r, of, tr) := by
  intro m
  induction m with
  | zero =>
    intro f v hv hf
    obtain ⟨g, rfl⟩ : ∃ g, f = g + 1 := ⟨f - 1, by omega⟩
    have e1 : v = 12 := by omega
    subst e1
    refine ⟨-1, ?_, ?_⟩
    · show B_X8_testPitch_46 N tu chord (F_X8_testPitch_46 N tu chord g) (nI a) (nI b) (nI 12) = _
      unfold B_X8_testPitch_46
      rw [if_pos (ge12 (Nat.le_refl _) (by omega))]
    · show B_X9_pitches_114 N s1 tu g1 p1 p2 p3 (F_X9_pitches_114 N s1 tu g1 p1 p2 p3 g) of tr (nI a) (nI b) (nI 12) = _
      unfold B_X9_pitches_114
      rw [if_pos (ge12 (Nat.le_refl _) (by omega))]
  | succ m ih =>
    intro f v hv hf
    obtain ⟨g, rfl⟩ : ∃ g, f = g + 1 := ⟨f - 1, by omega⟩
    obtain ⟨r, h1, h2⟩ := ih g (v + 1) (by omega) (by omega)
    have l1 := apN_lt v (by omega) a ha
    have l2 := apN_lt v (by omega) b hb
    have u1 : F_X8_testPitch_46 N tu chord (g + 1) (nI a) (nI b) (nI v) = if (if bt tu (apN v a) = true then (1 : Int32) else 0) = (if bt tu (apN v b) = true then (1 : Int32) else 0) then F_X8_testPitch_46 N tu chord g (nI a) (nI b) (nI (v + 1)) else some (nI v) := by
      show B_X8_testPitch_46 N tu chord (F_X8_testPitch_46 N tu chord g) (nI a) (nI b) (nI v) = _
      unfold B_X8_testPitch_46
      rw [if_neg (nge12 (by omega)), bnd_of (v_X8_apart v (by omega) a ha), nm_def, bnd_of (v_X8_apart v (by omega) b hb), nm_def, bt_tst (by omega), bt_tst (by omega), nm_def, i_s]
    have u2 : F_X9_pitches_114 N s1 tu g1 p1 p2 p3 (g + 1) of tr (nI a) (nI b) (nI v) = if (if bt tu (apN v a) = true then (1 : Int32) else 0) = (if bt tu (apN v b) = true then (1 : Int32) else 0) then F_X9_pitches_114 N s1 tu g1 p1 p2 p3 g of tr (nI a) (nI b) (nI (v + 1)) else some (nI v, of, tr) := by
      show B_X9_pitches_114 N s1 tu g1 p1 p2 p3 (F_X9_pitches_114 N s1 tu g1 p1 p2 p3 g) of tr (nI a) (nI b) (nI v) = _
      unfold B_X9_pitches_114
      rw [if_neg (nge12 (by omega)), if_neg (i_ne (by omega) (by omega) hab), bnd_of (v_X9_apart a ha v (by omega)), apN_comm a ha v (by omega), bnd_of (v_X9_has (by omega)), bnd_of (v_X9_apart b hb v (by omega)), apN_comm b hb v (by omega), bnd_of (v_X9_has (by omega)), nm_def, i_s]
    rw [u1, u2]
    by_cases w : (if bt tu (apN v a) = true then (1 : Int32) else 0) = (if bt tu (apN v b) = true then (1 : Int32) else 0)
    · rw [if_pos w, if_pos w]
      exact ⟨r, h1, h2⟩
    · rw [if_neg w, if_neg w]
      exact ⟨_, rfl, rfl⟩
theorem test_both (hN : 70000 ≤ N) (tu chord : Int32) (s1 : Int32) (g1 of tr : Nat → Int32) (p1 p2 p3 : Int32) : ∃ r, F_X8_testPitch N tu chord = some r ∧ F_X9_pitches_55 N s1 tu g1 p1 p2 p3 N of tr chord (-1) (-1) 0 = some (r, of, tr) := by
  have u1 : F_X8_testPitch N tu chord = if lsD chord 12 = grD chord 12 then some (-1) else F_X8_testPitch_46 N tu chord N (lsD chord 12) (grD chord 12) 0 := by
    unfold F_X8_testPitch
    rw [bnd_of (v_X8_leastOf hN chord)]
    refine lq3_run (fun _ => lsD chord 12) (fun i => grD chord i) (fun i => nI i) 12 _ (fun self i hi => ?_) (fun self => ?_) N (by omega)
    · unfold B_X8_testPitch_10
      rw [if_neg (nge12 hi), grD]
      simp only [nm_def, i_s]
      by_cases w : bt chord i = true
      · rw [if_pos ((bt_one (by omega)).mpr w), if_pos w]
      · rw [if_neg (fun e => w ((bt_one (by omega)).mp e)), if_neg w]
    · unfold B_X8_testPitch_10
      rw [if_pos (ge12 (Nat.le_refl _) (by omega))]
  have u2 : F_X9_pitches_55 N s1 tu g1 p1 p2 p3 N of tr chord (-1) (-1) 0 = F_X9_pitches_114 N s1 tu g1 p1 p2 p3 N of tr (lsD chord 12) (grD chord 12) 0 := by
    rw [← ffD_ls]
    refine lq6_run (fun _ => of) (fun _ => tr) (fun _ => chord) (fun i => ffD chord i) (fun i => grD chord i) (fun i => nI i) 12 _ (fun self i hi => ?_) (fun self => ?_) N (by omega)
    · have fin : ∀ z, B_X9_pitches_84 N s1 tu g1 p1 p2 p3 self of tr chord (grD chord i) (nI i) z = self of tr chord z (grD chord (i + 1)) (nI (i + 1)) := fun z => by
        unfold B_X9_pitches_84
        rw [bnd_of (v_X9_has (by omega)), grD]
        simp only [nm_def, i_s]
        by_cases w : bt chord i = true
        · rw [if_pos w, if_neg (show ¬ (1 : Int32) = 0 by decide), if_pos w]
        · rw [if_neg w, if_pos rfl, if_neg w]
      unfold B_X9_pitches_55
      rw [if_neg (nge12 hi), ffD, fin, fin, bnd_of (v_X9_has (by omega))]
      by_cases w : 0 ≤ ffD chord i
      · rw [if_pos w, if_pos w]
      · rw [if_neg w, if_neg w]
        by_cases w : bt chord i = true
        · rw [if_pos w, if_neg (show ¬ (1 : Int32) = 0 by decide), if_pos w]
        · rw [if_neg w, if_pos rfl, if_neg w]
    · unfold B_X9_pitches_55
      rw [if_pos (ge12 (Nat.le_refl _) (by omega))]
  rw [u1, u2]
  by_cases z : lsD chord 12 = grD chord 12
  · rw [if_pos z, z]
    refine ⟨-1, rfl, ?_⟩
    obtain ⟨M, rfl⟩ : ∃ M, N = M + 1 := ⟨N - 1, by omega⟩
    show B_X9_pitches_114 (M + 1) s1 tu g1 p1 p2 p3 (F_X9_pitches_114 (M + 1) s1 tu g1 p1 p2 p3 M) of tr (grD chord 12) (grD chord 12) 0 = _
    unfold B_X9_pitches_114
    rw [if_neg (show ¬ (12 : Int32) ≤ 0 by decide), if_pos rfl]
  · rw [if_neg z]
    rcases grD_cases chord 12 (Nat.le_refl _) with ⟨h1, h2⟩ | ⟨k, h1, h2, h3⟩
    · exact absurd ((lsD_no h2 12 (Nat.le_refl _)).trans h1.symm) z
    · rcases ffD_cases chord 12 (Nat.le_refl _) with ⟨h4, h5⟩ | ⟨j, h4, h5, h6, h7⟩
      · rw [h5 k h1] at h3
        cases h3
      · rw [ffD_ls] at h5
        rw [h5, h2] at z ⊢
        exact test_scan tu h4 h1 (fun e => z (by rw [e])) chord s1 g1 of tr p1 p2 p3 12 N 0 (by omega) (by omega)
def pi1 (pi : Nat → Nat) (s v : Nat) : Nat → Nat := fun t => if t = s then v else pi t
theorem MOk_pi (M : MOk n pi lo de fr to of) {of' : Nat → Int32} {s v : Nat} (hv : v < 12) (h5 : of' (5 * s) = nI v) (hj : ∀ j, j ≠ 5 * s → of' j = of j) : MOk n (pi1 pi s v) lo de fr to of' := by
  refine ⟨M.1, fun t ht => ?_⟩
  have hM := M.2 t ht
  unfold pi1
  rw [hj (5 * t + 1) (by omega), hj (5 * t + 2) (by omega), hj (5 * t + 3) (by omega), hj (5 * t + 4) (by omega)]
  by_cases e : t = s
  · subst e
    rw [if_pos rfl]
    exact ⟨h5, hM.2.1, hM.2.2.1, hM.2.2.2.1, hM.2.2.2.2.1, hv, hM.2.2.2.2.2.2⟩
  · rw [if_neg e, hj (5 * t) (by omega)]
    exact hM
theorem pitches_both (hN : 70000 ≤ N) (M : MOk n pi lo de fr to of) (tu : Int32) {tl td : Nat → Int32} (hl : ∀ s, s < n → tl s = nI (lo s)) (hd : ∀ s, s < n → td s = nI (de s)) (el ed es : Nat → Int32) {row crews : Nat → Int32} (hc : Cr n row crews) (hca : CaOk n row) {s : Nat} (hs : s < n) (p2 : Int32) (K1 : Int32 → Int32 → (Nat → Int32) → (Nat → Int32) → (Nat → Int32) → (Nat → Int32) → (Nat → Int32) → Option (Int32 × Int32 × (Nat → Int32) × (Nat → Int32) × (Nat → Int32) × (Nat → Int32) × (Nat → Int32))) (tp tf tt : Nat → Int32) (p3 : Int32) :
    ∀ (m f v : Nat) (ep ja of' tr : Nat → Int32) (x4 : Int32), v + m = 12 → m < f → (∀ t, t < n → t ≠ s → ep t = nI (pi t)) → (∀ j, j ≠ 5 * s → of' j = of j) →
    ∃ ch ep' ja' tr', F_X8_pitches_48 N (nI n) tu tp tl td tf tt crews (nI s) p2 p3 f (nI n) ep (va_cpy tl el 0 0 n) (va_cpy td ed 0 0 n) ja (snF fr to (va_cpy (fun _ => 0) es 0 0 12) n) x4 (nI v) = (if p3 = 0 then some (ch, nI n, ep', va_cpy tl el 0 0 n, va_cpy td ed 0 0 n, ja', snF fr to (va_cpy (fun _ => 0) es 0 0 12) n) else bnd (F_X8_testPitch N tu ch) (fun o4 => some (o4, nI n, ep', va_cpy tl el 0 0 n, va_cpy td ed 0 0 n, ja', snF fr to (va_cpy (fun _ => 0) es 0 0 12) n))) ∧
      F_X9_pitchesOf_15 N (nI n) tu row (nI s) p2 f of' tr (of (5 * s)) x4 (nI v) = some (ch, of, tr') := by
  have h8 := M.1
  intro m
  induction m with
  | zero =>
    intro f v ep ja of' tr x4 hi hf hep hof
    obtain ⟨g, rfl⟩ : ∃ g, f = g + 1 := ⟨f - 1, by omega⟩
    have e1 : v = 12 := by omega
    subst e1
    refine ⟨x4, ep, ja, tr, ?_, ?_⟩
    · show B_X8_pitches_48 N (nI n) tu tp tl td tf tt crews (nI s) p2 p3 (F_X8_pitches_48 N (nI n) tu tp tl td tf tt crews (nI s) p2 p3 g) (nI n) ep (va_cpy tl el 0 0 n) (va_cpy td ed 0 0 n) ja (snF fr to (va_cpy (fun _ => 0) es 0 0 12) n) x4 (nI 12) = _
      unfold B_X8_pitches_48
      rw [if_pos (ge12 (Nat.le_refl _) (by omega))]
    · show B_X9_pitchesOf_15 N (nI n) tu row (nI s) p2 (F_X9_pitchesOf_15 N (nI n) tu row (nI s) p2 g) of' tr (of (5 * s)) x4 (nI 12) = _
      unfold B_X9_pitchesOf_15
      rw [if_pos (ge12 (Nat.le_refl _) (by omega)), i_of50, wr_nI (by omega) (by omega)]
      have e : upd of' (5 * s) (of (5 * s)) = of := funext (fun j => by
        by_cases e : j = 5 * s
        · rw [e, pk_us]
        · rw [pk_un e]
          exact hof j e)
      rw [e]
  | succ m ih =>
    intro f v ep ja of' tr x4 hi hf hep hof
    obtain ⟨g, rfl⟩ : ∃ g, f = g + 1 := ⟨f - 1, by omega⟩
    have M2 : MOk n (pi1 pi s v) lo de fr to (upd of' (5 * s) (nI v)) := MOk_pi M (by omega) pk_us (fun j hj => by rw [pk_un hj]; exact hof j hj)
    have hep2 : ∀ t, t < n → upd ep s (nI v) t = nI (pi1 pi s v t) := fun t ht => by
      unfold pi1
      by_cases e : t = s
      · subst e
        rw [pk_us, if_pos rfl]
      · rw [pk_un e, if_neg e]
        exact hep t ht e
    have ht := v_X0_tune hN h8 (fun t ht => (M2.2 t ht).2.2.2.2.2.1) hep2 ja (tu := tu)
    have E : EarOk n tu (pi1 pi s v) lo de fr to (va_cpy tl el 0 0 n) (va_cpy td ed 0 0 n) (va_cpy (jaF n tu (pi1 pi s v)) ja 0 0 n) (snF fr to (va_cpy (fun _ => 0) es 0 0 12) n) := ear_made h8 hl hd
    obtain ⟨r, t, z1, z2⟩ := night_both hN M2 E hc hca tr
    have next := fun x4 => ih g (v + 1) (upd ep s (nI v)) (va_cpy (jaF n tu (pi1 pi s v)) ja 0 0 n) (upd of' (5 * s) (nI v)) (r, t).2 x4 (by omega) (by omega) (fun t ht e => by rw [pk_un e]; exact hep t ht e) (fun j hj => by rw [pk_un hj]; exact hof j hj)
    rw [show F_X8_pitches_48 N (nI n) tu tp tl td tf tt crews (nI s) p2 p3 (g + 1) (nI n) ep (va_cpy tl el 0 0 n) (va_cpy td ed 0 0 n) ja (snF fr to (va_cpy (fun _ => 0) es 0 0 12) n) x4 (nI v) = B_X8_pitches_48 N (nI n) tu tp tl td tf tt crews (nI s) p2 p3 (F_X8_pitches_48 N (nI n) tu tp tl td tf tt crews (nI s) p2 p3 g) (nI n) ep (va_cpy tl el 0 0 n) (va_cpy td ed 0 0 n) ja (snF fr to (va_cpy (fun _ => 0) es 0 0 12) n) x4 (nI v) from rfl, show F_X9_pitchesOf_15 N (nI n) tu row (nI s) p2 (g + 1) of' tr (of (5 * s)) x4 (nI v) = B_X9_pitchesOf_15 N (nI n) tu row (nI s) p2 (F_X9_pitchesOf_15 N (nI n) tu row (nI s) p2 g) of' tr (of (5 * s)) x4 (nI v) from rfl]
    unfold B_X8_pitches_48 B_X9_pitchesOf_15
    rw [if_neg (nge12 (by omega)), if_neg (nge12 (by omega)), bnd_of (layI_in (by omega) (by omega)), bnd_of ht, bnd_of z1, i_of50, wr_nI (by omega) (by omega), bnd_of (v_X9_begin hN row tr), bnd_of z2]
    by_cases z : r = p2
    · rw [if_pos z, if_pos (show (r, t).1 = p2 from z)]
      simp only [nm_def, i_s]
      exact next _
    · rw [if_neg z, if_neg (show ¬ (r, t).1 = p2 from z)]
      simp only [nm_def, i_s, x_or0]
      exact next _
end Pitches
section Ops
variable {si : Nat → Int32} {fa : Nat → Nat → Int32} {sm : Nat → Int32} {fm : Nat → Nat → Int32} {N : Nat}
theorem op_pitches (hN : 70000 ≤ N) (I : Inv si fa sm fm) (p1 p2 p3 : Int32) : ∃ r x20 f26 f27 f28 f29 f30 g6 g9, F_X8_pitches N (si 12) (si 14) (si 20) (fa 5) (fa 6) (fa 7) (fa 8) (fa 9) (fa 26) (fa 27) (fa 28) (fa 29) (fa 30) (fa 32) p1 p2 p3 = some (r, x20, f26, f27, f28, f29, f30) ∧ F_X9_pitches N (sm 13) (sm 15) (fm 6) (fm 8) (fm 9) p1 p2 p3 = some (r, g6, g9) ∧ Inv (upd si 20 x20) (va_up (va_up (va_up (va_up (va_up fa 26 f26) 27 f27) 28 f28) 29 f29) 30 f30) sm (va_up (va_up fm 6 g6) 9 g9) := by
  obtain ⟨hTx, hF, n, c, cp, tu, pi, lo, de, fr, to, be, hTr, hEa, hNt, hI⟩ := id I
  obtain ⟨a1, a2, a3, M, T, a6, a7, a8, a9, a10, a11, a12, a13, a14, a15⟩ := id hTr
  have h8 := M.1
  have same : ∀ x20 f26 f27 f28 f29 f30 g9, Inv (upd si 20 x20) (va_up (va_up (va_up (va_up (va_up fa 26 f26) 27 f27) 28 f28) 29 f29) 30 f30) sm (va_up (va_up fm 6 (fm 6)) 9 g9) := fun _ _ _ _ _ _ _ => ⟨hTx, hF, n, c, cp, tu, pi, lo, de, fr, to, be, hTr, hEa, hNt, hI⟩
  unfold F_X8_pitches F_X9_pitches
  rw [a7, a9, a11, a13]
  rcases no_one (c := n) (by omega) p1 with ⟨e1, e2⟩ | ⟨s, hs, rfl, e1, e2⟩
  · rw [bnd_of e1, bnd_of e2, if_neg (show ¬ (1 : Int32) = 0 by decide), if_pos (show (0 : Int32) = 0 from rfl)]
    exact ⟨_, _, _, _, _, _, _, _, _, rfl, rfl, same _ _ _ _ _ _ _⟩
  rw [bnd_of e1, bnd_of e2, if_neg (show ¬ (1 : Int32) = 0 by decide), if_pos (show (0 : Int32) = 0 from rfl)]
  rcases no_set h8 p2 with ⟨e1, e2⟩ | ⟨e1, e2, hb⟩
  · rw [bnd_of e1, bnd_of e2, if_neg (show ¬ (1 : Int32) = 0 by decide), if_pos (show (0 : Int32) = 0 from rfl)]
    exact ⟨_, _, _, _, _, _, _, _, _, rfl, rfl, same _ _ _ _ _ _ _⟩
  rw [bnd_of e1, bnd_of e2, if_neg (show ¬ (1 : Int32) = 0 by decide), if_pos (show (0 : Int32) = 0 from rfl)]
  rcases in_cases p3 (m := 1) (by omega) with ⟨q1, q2⟩ | ⟨j, j1, j2, rfl, q1, q2⟩ | ⟨j, j1, rfl, q1, q2⟩
  · have q2 : F_X9_in p3 0 1 = some 0 := q2
    rw [if_pos q1, bnd_of q2, if_pos rfl]
    exact ⟨_, _, _, _, _, _, _, _, _, rfl, rfl, same _ _ _ _ _ _ _⟩
  · have q2 : F_X9_in (nI j) 0 1 = some 0 := q2
    rw [if_neg q1, if_neg (nle1 j1 j2), bnd_of q2, if_pos rfl]
    exact ⟨_, _, _, _, _, _, _, _, _, rfl, rfl, same _ _ _ _ _ _ _⟩
  have q2 : F_X9_in (nI j) 0 1 = some 1 := q2
  obtain ⟨ch, ep', ja', tr', z1, z2⟩ := pitches_both hN M tu (fun s hs => (T s hs).2.1) (fun s hs => (T s hs).2.2.1) (fa 27) (fa 28) (fa 30) hNt.1 (NtOk_ca a1 hNt) hs p2 (fun _ _ _ _ _ _ _ => none) (fa 5) (fa 8) (fa 9) (nI j) 12 N 0 (va_cpy (fa 5) (fa 26) 0 0 n) (fa 29) (fm 6) (fm 9) 0 (by omega) (by omega) (fun t ht _ => by rw [cpy_in0 ht]; exact (T t ht).1) (fun _ _ => rfl)
  have z3 : F_X9_pitchesOf N (nI n) tu (fm 6) (fm 8) (fm 9) (nI s) p2 = some (ch, fm 6, tr') := by
    unfold F_X9_pitchesOf
    rw [i_of50, rd_nI (by omega) (by omega)]
    exact z2
  have z1 : F_X8_pitches_48 N (nI n) tu (fa 5) (fa 6) (fa 7) (fa 8) (fa 9) (fa 32) (nI s) p2 (nI j) N (nI n) (va_cpy (fa 5) (fa 26) 0 0 n) (va_cpy (fa 6) (fa 27) 0 0 n) (va_cpy (fa 7) (fa 28) 0 0 n) (fa 29) (snF fr to (va_cpy (fun _ => 0) (fa 30) 0 0 12) n) 0 0 = _ := z1
  rw [if_neg q1, if_pos (le1 j1), bnd_of q2, if_neg (show ¬ (1 : Int32) = 0 by decide), bnd_of (v_X0_listen hN M T _ _ _ _ _), bnd_of z3]
  show ∃ r x20 f26 f27 f28 f29 f30 g6 g9, F_X8_pitches_48 N (nI n) tu (fa 5) (fa 6) (fa 7) (fa 8) (fa 9) (fa 32) (nI s) p2 (nI j) N (nI n) (va_cpy (fa 5) (fa 26) 0 0 n) (va_cpy (fa 6) (fa 27) 0 0 n) (va_cpy (fa 7) (fa 28) 0 0 n) (fa 29) (snF fr to (va_cpy (fun _ => 0) (fa 30) 0 0 12) n) 0 0 = _ ∧ _
  rw [z1]
  by_cases w : nI j = 0
  · rw [if_pos w, if_pos w]
    exact ⟨_, _, _, _, _, _, _, _, _, rfl, rfl, same _ _ _ _ _ _ _⟩
  · obtain ⟨r, t1, t2⟩ := test_both hN tu ch (nI n) (fm 8) (fm 6) tr' (nI s) p2 (nI j)
    rw [if_neg w, if_neg w, bnd_of t1]
    exact ⟨_, _, _, _, _, _, _, _, _, rfl, t2, same _ _ _ _ _ _ _⟩
end Ops

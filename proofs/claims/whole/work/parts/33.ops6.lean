def chI (q : Nat → Bool) (pi : Nat → Nat) : Nat → Int32
  | 0 => 0
  | i + 1 => if q i = true then chI q pi i ||| bitI (pi i) else chI q pi i
def lsD (x : Int32) : Nat → Int32
  | 0 => -1
  | i + 1 => if bt x (11 - i) = true then nI (11 - i) else lsD x i
theorem lsD_first {x : Int32} {i : Nat} (hi : i < 12) (hb : bt x i = true) (hf : ∀ j, j < i → bt x j = false) : ∀ m, m ≤ 12 → 12 - m ≤ i → lsD x m = nI i
  | 0, _, h => by omega
  | m + 1, hm, h => by
    rw [lsD]
    by_cases e : 11 - m = i
    · rw [e, if_pos hb]
    · rw [if_neg (fun w => by rw [hf (11 - m) (by omega)] at w; cases w)]
      exact lsD_first hi hb hf m (by omega) (by omega)
theorem lsD_no {x : Int32} (hf : ∀ j, j < 12 → bt x j = false) : ∀ m, m ≤ 12 → lsD x m = -1
  | 0, _ => rfl
  | m + 1, hm => by
    rw [lsD, if_neg (fun w => by rw [hf (11 - m) (by omega)] at w; cases w)]
    exact lsD_no hf m (by omega)
theorem v_X8_leastOf {N : Nat} (hN : 70000 ≤ N) (x : Int32) : F_X8_leastOf N x = some (lsD x 12) := by
  unfold F_X8_leastOf
  rcases lq1_first (body := fun self => B_X8_leastOf_2 N x self) (fun i => bt x i) 12 (fun i => some (nI i)) (some (-1)) (fun self i hi => by
    show B_X8_leastOf_2 N x self (nI i) = _
    unfold B_X8_leastOf_2
    rw [if_neg (nge12 hi), nm_def, i_s]
    by_cases w : bt x i = true
    · rw [if_pos ((bt_one (by omega)).mpr w), if_pos w]
    · rw [if_neg (fun e => w ((bt_one (by omega)).mp e)), if_neg w]) (fun self => by
    show B_X8_leastOf_2 N x self (nI 12) = _
    unfold B_X8_leastOf_2
    rw [if_pos (ge12 (Nat.le_refl _) (by omega))]) N (by omega) with ⟨i, h1, h2, h3, h4⟩ | ⟨h1, h2⟩
  · rw [lsD_first h1 h2 h3 12 (Nat.le_refl _) (by omega)]
    exact h4
  · rw [lsD_no h1 12 (Nat.le_refl _)]
    exact h2
section Sounds
variable {n : Nat} {pi lo de fr to : Nat → Nat} {of : Nat → Int32} {N : Nat}
theorem v_X8_chordOf (hN : 70000 ≤ N) (M : MOk n pi lo de fr to of) {tp : Nat → Int32} (ht : ∀ s, s < n → tp s = nI (pi s)) {x : Int32} {q : Nat → Bool} (hq : ∀ i, i < n → bt x i = q i) : F_X8_chordOf N (nI n) tp x = some (chI q pi n) := by
  have h8 := M.1
  unfold F_X8_chordOf
  refine lq2_run (fun i => chI q pi i) (fun i => nI i) n _ (fun self i hi => ?_) (fun self => ?_) N (by omega)
  · unfold B_X8_chordOf_4
    rw [if_neg (i_nle hi (by omega)), chI]
    by_cases w : q i = true
    · rw [if_pos ((bt_one (by omega)).mpr (by rw [hq i hi]; exact w)), bnd_of (atI_in (by omega) (by omega)), nm_def, nm_def, i_s, if_pos w, ht i hi]
      rfl
    · rw [if_neg (fun e => w (by rw [← hq i hi]; exact (bt_one (by omega)).mp e)), nm_def, i_s, if_neg w]
  · unfold B_X8_chordOf_4
    rw [if_pos (i_le (Nat.le_refl _) (by omega))]
theorem v_X8_loudOf (hN : 70000 ≤ N) (M : MOk n pi lo de fr to of) {tl : Nat → Int32} (ht : ∀ s, s < n → tl s = nI (lo s)) {x : Int32} {q : Nat → Bool} (hq : ∀ i, i < n → bt x i = q i) : F_X8_loudOf N (nI n) tl x = some (sumN (fun s => if q s = true then nI (lo s) else 0) n) := by
  have h8 := M.1
  unfold F_X8_loudOf
  refine lq2_run (fun i => sumN (fun s => if q s = true then nI (lo s) else 0) i) (fun i => nI i) n _ (fun self i hi => ?_) (fun self => ?_) N (by omega)
  · unfold B_X8_loudOf_4
    rw [if_neg (i_nle hi (by omega)), sumN]
    by_cases w : q i = true
    · rw [if_pos ((bt_one (by omega)).mpr (by rw [hq i hi]; exact w)), bnd_of (atI_in (by omega) (by omega)), nm_def, nm_def, i_s, if_pos w, ht i hi]
    · rw [if_neg (fun e => w (by rw [← hq i hi]; exact (bt_one (by omega)).mp e)), nm_def, i_s, if_neg w, x_add0]
  · unfold B_X8_loudOf_4
    rw [if_pos (i_le (Nat.le_refl _) (by omega))]
theorem v_X9_sounds_133 (hN : 70000 ≤ N) (s1 s2 : Int32) (g1 g2 : Nat → Int32) (p1 p2 p3 : Int32) (a b : Int32) : F_X9_sounds_133 N s1 s2 g1 g2 p1 p2 p3 N a b (-1) 11 = if p3 = 0 then some a else if p3 = 1 then some b else some (lsD a 12) := by
  have h := lq4_run (body := fun self => B_X9_sounds_133 N s1 s2 g1 g2 p1 p2 p3 self) (fun _ => a) (fun _ => b) (fun i => lsD a i) (fun i => if i < 12 then nI (11 - i) else -1) 12 (if p3 = 0 then some a else if p3 = 1 then some b else some (lsD a 12)) (fun self i hi => by
    show B_X9_sounds_133 N s1 s2 g1 g2 p1 p2 p3 self a b (lsD a i) (if i < 12 then nI (11 - i) else -1) = _
    have hst : nI (11 - i) + (-1) = if i + 1 < 12 then nI (11 - (i + 1)) else -1 := by
      have : ∀ i, i < 12 → nI (11 - i) + (-1) = if i + 1 < 12 then nI (11 - (i + 1)) else -1 := by decide +kernel
      exact this i hi
    unfold B_X9_sounds_133
    rw [if_pos hi, if_neg (i_n0 (by omega)), bnd_of (v_X9_has (by omega)), lsD, hst]
    by_cases w : bt a (11 - i) = true
    · rw [if_pos w, if_neg (show ¬ (1 : Int32) = 0 by decide), nm_def, if_pos w]
    · rw [if_neg w, if_pos rfl, nm_def, if_neg w]) (fun self => by
    show B_X9_sounds_133 N s1 s2 g1 g2 p1 p2 p3 self a b (lsD a 12) (if 12 < 12 then nI (11 - 12) else -1) = _
    unfold B_X9_sounds_133
    rw [if_neg (Nat.lt_irrefl 12), if_pos (show (-1 : Int32) < 0 by decide)]) N (by omega)
  exact h
theorem v_X9_sounds_54 (hN : 70000 ≤ N) (M : MOk n pi lo de fr to of) (s1 : Int32) (g : Nat → Int32) (p1 p2 p3 : Int32) {x : Int32} {q : Nat → Bool} (hq : ∀ i, i < n → bt x i = q i) : F_X9_sounds_54 N s1 (nI n) of g p1 p2 p3 N x 0 0 0 = if p3 = 0 then some (chI q pi n) else if p3 = 1 then some (sumN (fun s => if q s = true then nI (lo s) else 0) n) else some (lsD (chI q pi n) 12) := by
  have h8 := M.1
  rw [← v_X9_sounds_133 hN s1 (nI n) of g p1 p2 p3]
  refine lq4_run (fun _ => x) (fun i => chI q pi i) (fun i => sumN (fun s => if q s = true then nI (lo s) else 0) i) (fun i => nI i) n _ (fun self i hi => ?_) (fun self => ?_) N (by omega)
  · unfold B_X9_sounds_54
    rw [if_neg (i_nle hi (by omega)), bnd_of (v_X9_has (by omega)), hq i hi, chI, sumN]
    unfold B_X9_sounds_87
    by_cases w : q i = true
    · rw [if_pos w, if_neg (show ¬ (1 : Int32) = 0 by decide), bnd_of (v_X9_pitchOf M hi), nm_def, bnd_of (v_X9_has (by omega)), hq i hi, if_pos w, if_neg (show ¬ (1 : Int32) = 0 by decide), show (5 : Int32) * nI i + 1 = nI (5 * i + 1) from i_of5, rd_nI (by omega) (by omega), (M.2 i hi).2.1, nm_def, nm_def, i_s, if_pos w, if_pos w]
      rfl
    · rw [if_neg w, if_pos rfl, nm_def, bnd_of (v_X9_has (by omega)), hq i hi, if_neg w, if_pos rfl, nm_def, nm_def, i_s, if_neg w, if_neg w, x_or0]
  · unfold B_X9_sounds_54
    rw [if_pos (i_le (Nat.le_refl _) (by omega))]
end Sounds
section Ops
variable {si : Nat → Int32} {fa : Nat → Nat → Int32} {sm : Nat → Int32} {fm : Nat → Nat → Int32} {N : Nat}
theorem op_sounds (hN : 70000 ≤ N) (I : Inv si fa sm fm) (p1 p2 p3 : Int32) : ∃ r, F_X8_sounds N (si 11) (si 12) (si 21) (fa 5) (fa 6) (fa 24) (fa 32) p1 p2 p3 = some r ∧ F_X9_sounds N (sm 12) (sm 13) (fm 6) (fm 8) p1 p2 p3 = some r := by
  obtain ⟨hTx, hF, n, c, cp, tu, pi, lo, de, fr, to, be, ⟨a1, a2, a3, M, T, a6, a7, a8, a9, a10, a11, a12, a13, a14, a15⟩, hEa, hNt, hI⟩ := id I
  obtain ⟨b1, b2, b3, b4, b5, h, hh, b6, b7⟩ := id hNt
  have h8 := M.1
  unfold F_X8_sounds F_X9_sounds
  rw [a6, a7, a10, a11]
  rcases no_car (c := c) (by omega) p1 with ⟨e1, e2⟩ | ⟨k, hk, rfl, e1, e2⟩
  · rw [bnd_of e1, bnd_of e2, if_neg (show ¬ (1 : Int32) = 0 by decide), if_pos (show (0 : Int32) = 0 from rfl)]
    exact ⟨_, rfl, rfl⟩
  rw [bnd_of e1, bnd_of e2, if_neg (show ¬ (1 : Int32) = 0 by decide), if_pos (show (0 : Int32) = 0 from rfl)]
  rcases in_cases p2 (m := 11) (by omega) with ⟨q1, q2⟩ | ⟨j, j1, j2, rfl, q1, q2⟩ | ⟨j, j1, rfl, q1, q2⟩
  · have q2 : F_X9_in p2 0 11 = some 0 := q2
    rw [if_pos q1, bnd_of q2, if_pos rfl]
    exact ⟨_, rfl, rfl⟩
  · have q2 : F_X9_in (nI j) 0 11 = some 0 := q2
    rw [if_neg q1, if_pos (ge12 j1 j2), bnd_of q2, if_pos rfl]
    exact ⟨_, rfl, rfl⟩
  have q2 : F_X9_in (nI j) 0 11 = some 1 := q2
  rw [if_neg q1, if_neg (nge12 (by omega)), bnd_of q2, if_neg (show ¬ (1 : Int32) = 0 by decide)]
  rcases in_cases p3 (m := 2) (by omega) with ⟨q1, q2⟩ | ⟨i, i1, i2, rfl, q1, q2⟩ | ⟨i, i1, rfl, q1, q2⟩
  · have q2 : F_X9_in p3 0 2 = some 0 := q2
    rw [if_pos q1, bnd_of q2, if_pos rfl]
    exact ⟨_, rfl, rfl⟩
  · have q2 : F_X9_in (nI i) 0 2 = some 0 := q2
    rw [if_neg q1, if_neg (nle2 i1 i2), bnd_of q2, if_pos rfl]
    exact ⟨_, rfl, rfl⟩
  have q2 : F_X9_in (nI i) 0 2 = some 1 := q2
  have hq1 : ∀ t, t < n → bt ((fa 32 k &&& (si 21 ^^^ (-1))) &&& fa 24 j) t = (fun s => innM n (fm 8) k s && (!bt (fm 8 8) s && liveT n fr to j s)) t := fun t ht => by
    rw [b4]
    exact snor_bits hEa.2 b1 _ (by omega) (by omega) t (by omega)
  have hq2 : ∀ t, t < n → bt (setN (fun s => innM n (fm 8) k s && (!bt (fm 8 8) s && liveT n fr to j s)) n) t = (fun s => innM n (fm 8) k s && (!bt (fm 8 8) s && liveT n fr to j s)) t := fun t ht => by
    rw [bt_setN _ (by omega), decide_eq_true ht, Bool.true_and]
  rw [if_neg q1, if_pos (le2 i1), bnd_of q2, if_neg (show ¬ (1 : Int32) = 0 by decide), bnd_of (atI_in (by omega) (by omega)), bnd_of (v_X0_snorers (by omega)), bnd_of (v_X9_snorers hN M (m := 10) (by omega) (by omega) (by omega)), v_X9_sounds_54 hN M _ _ _ _ _ hq2, bnd_of (v_X8_loudOf hN M (fun s hs => (T s hs).2.1) hq1), bnd_of (v_X8_chordOf hN M (fun s hs => (T s hs).1) hq1), bnd_of (v_X8_leastOf hN _)]
  rcases (show i = 0 ∨ i = 1 ∨ i = 2 by omega) with rfl | rfl | rfl
  · exact ⟨_, rfl, rfl⟩
  · exact ⟨_, rfl, rfl⟩
  · exact ⟨_, rfl, rfl⟩
end Ops

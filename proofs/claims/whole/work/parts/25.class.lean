def Cr (n : Nat) (row crews : Nat → Int32) : Prop := ∀ k, k < 4 → ∀ s, bt (crews k) s = innM n row k s
theorem v_X8_carOf {N : Nat} (hN : 70000 ≤ N) {n : Nat} {row crews : Nat → Int32} (hn : n ≤ 8) (hc : Cr n row crews) (ho : CaOk n row) {s : Nat} (hs : s < n) : F_X8_carOf N 4 crews (nI s) = some (row s) := by
  unfold F_X8_carOf
  rcases ho s hs with q | ⟨k, hk, q⟩
  · refine lq1_run (fun i => nI i) 4 _ (fun self i hi => ?_) (fun self => ?_) N (by omega)
    · unfold B_X8_carOf_2
      rw [if_neg (o_nge hi (by omega)), rd_nI hi (by omega), if_neg (fun e => ?_)]
      · show self (nI i + 1) = _
        rw [i_s]
      · have h1 := (bt_one (by omega)).mp e
        rw [hc i hi s, innM, decide_eq_false (fun w => i_m1' (by omega) (q.symm.trans w.2))] at h1
        cases h1
    · unfold B_X8_carOf_2
      rw [if_pos (o_ge (Nat.le_refl _) (by omega)), q]
  · refine lq1_run (fun i => nI i) k _ (fun self i hi => ?_) (fun self => ?_) N (by omega)
    · unfold B_X8_carOf_2
      rw [if_neg (o_nge (by omega) (by omega)), rd_nI (by omega) (by omega), if_neg (fun e => ?_)]
      · show self (nI i + 1) = _
        rw [i_s]
      · have h1 := (bt_one (by omega)).mp e
        rw [hc i (by omega) s, innM, decide_eq_false (fun w => i_ne (by omega) (by omega) (by omega : i ≠ k) (w.2.symm.trans q))] at h1
        cases h1
    · unfold B_X8_carOf_2
      rw [if_neg (o_nge (by omega) (by omega)), rd_nI (by omega) (by omega), if_pos ((bt_one (by omega)).mpr (by rw [hc k hk s, innM, decide_eq_true ⟨hs, q⟩])), q]
theorem v_X2_inCars {N : Nat} (hN : 70000 ≤ N) (crews : Nat → Int32) : F_X2_inCars N crews = some (orN 0 crews 4) := by
  unfold F_X2_inCars
  refine lq2_run (fun i => orN 0 crews i) (fun i => nI i) 4 _ (fun self i hi => ?_) (fun self => ?_) N (by omega)
  · unfold B_X2_inCars_4
    rw [if_neg (nge4 hi), rd_nI hi (by omega)]
    show self _ (nI i + 1) = _
    rw [i_s]
    rfl
  · unfold B_X2_inCars_4
    rw [if_pos (ge4 (Nat.le_refl _) (by omega))]
def leadC (crews : Nat → Int32) (s : Nat) (to : Int32) : Nat → Int32 := fun k => if nI k = to then (crews k &&& (((1 : Int32) <<< (nI s &&& 31)) ^^^ (-1))) ||| ((1 : Int32) <<< (nI s &&& 31)) else crews k &&& (((1 : Int32) <<< (nI s &&& 31)) ^^^ (-1))
theorem cpy_s0 (a b : Nat → Int32) (i : Nat) : upd (va_cpy a b 0 0 i) i (a i) = va_cpy a b 0 0 (i + 1) := by
  have h := cpy_s a b 0 0 i
  rwa [Nat.zero_add] at h
theorem cpy_in0 {a b : Nat → Int32} {m j : Nat} (h : j < m) : va_cpy a b 0 0 m j = a j := by
  rw [pk_cpy_in (by omega) (by omega), Nat.zero_add, Nat.sub_zero]
theorem v_X2_lead {N : Nat} (hN : 70000 ≤ N) (crews : Nat → Int32) {s : Nat} (hs : s < 32) (to : Int32) : F_X2_lead N crews (nI s) to = some (va_cpy (leadC crews s to) crews 0 0 4) := by
  unfold F_X2_lead
  have h := lq2_run (body := fun self => B_X2_lead_2 N (nI s) to self) (fun i => va_cpy (leadC crews s to) crews 0 0 i) (fun i => nI i) 4 (some (va_cpy (leadC crews s to) crews 0 0 4)) (fun self i hi => by
    show B_X2_lead_2 N (nI s) to self _ _ = _
    unfold B_X2_lead_2
    rw [if_neg (nge4 hi), rd_nI hi (by omega), pk_cpy_out (by omega), nm_def]
    by_cases q : nI i = to
    · rw [if_pos q, ← cpy_s0, leadC, if_pos q]
      unfold B_X2_lead_46
      rw [wr_nI hi (by omega), nm_def, i_s]
    · rw [if_neg q, ← cpy_s0, leadC, if_neg q]
      unfold B_X2_lead_46
      rw [wr_nI hi (by omega), nm_def, i_s]) (fun self => by
    show B_X2_lead_2 N (nI s) to self _ _ = _
    unfold B_X2_lead_2
    rw [if_pos (ge4 (Nat.le_refl _) (by omega))]) N (by omega)
  rw [cpy_0] at h
  exact h
theorem bt_leadC {crews : Nat → Int32} {s : Nat} (hs : s < 32) {to : Int32} {k i : Nat} (hi : i < 32) : bt (leadC crews s to k) i = if i = s then decide (nI k = to) else bt (crews k) i := by
  unfold leadC
  by_cases q : nI k = to
  · rw [if_pos q, b_or, b_and, bt_not _ hi, bt_bit hs, decide_eq_true q]
    by_cases e : i = s
    · rw [if_pos e, decide_eq_true e, Bool.or_true]
    · rw [if_neg e, decide_eq_false e, Bool.or_false, Bool.not_false, Bool.and_true]
  · rw [if_neg q, b_and, bt_not _ hi, bt_bit hs, decide_eq_false q]
    by_cases e : i = s
    · rw [if_pos e, decide_eq_true e, Bool.not_true, Bool.and_false]
    · rw [if_neg e, decide_eq_false e, Bool.not_false, Bool.and_true]
theorem Cr_lead {n : Nat} {row crews : Nat → Int32} (hn : n ≤ 8) (hc : Cr n row crews) {s : Nat} (hs : s < n) (to : Int32) : Cr n (upd row s to) (va_cpy (leadC crews s to) crews 0 0 4) := by
  intro k hk i
  rw [cpy_in0 hk]
  rcases Nat.lt_or_ge i 32 with hi | hi
  · rw [bt_leadC (by omega) hi, innM]
    by_cases e : i = s
    · rw [if_pos e, e, pk_us]
      by_cases q : nI k = to
      · rw [decide_eq_true q, decide_eq_true ⟨hs, q.symm⟩]
      · rw [decide_eq_false q, decide_eq_false (fun w => q w.2.symm)]
    · rw [if_neg e, pk_un e, hc k hk i, innM]
  · rw [b_big hi, innM, decide_eq_false (fun w => by omega)]
theorem v_X2_lieAs {N : Nat} (hN : 70000 ≤ N) (mine other : Nat → Int32) : F_X2_lieAs N mine other = some (va_cpy other mine 0 0 4) := by
  unfold F_X2_lieAs
  have h := lq2_run (body := fun self => B_X2_lieAs_2 N other self) (fun i => va_cpy other mine 0 0 i) (fun i => nI i) 4 (some (va_cpy other mine 0 0 4)) (fun self i hi => by
    show B_X2_lieAs_2 N other self _ _ = _
    unfold B_X2_lieAs_2
    rw [if_neg (nge4 hi), bnd_of (atI_in hi (by omega)), wr_nI hi (by omega), cpy_s0]
    show self _ (nI i + 1) = _
    rw [i_s]) (fun self => by
    show B_X2_lieAs_2 N other self _ _ = _
    unfold B_X2_lieAs_2
    rw [if_pos (ge4 (Nat.le_refl _) (by omega))]) N (by omega)
  rw [cpy_0] at h
  exact h
theorem i_7 (p : Nat) : (7 : Int32) * nI p = nI (7 * p) := by rw [show (7 : Int32) = nI 7 from rfl, pk_mul]
theorem i_p4 (p : Nat) : nI p + (4 : Int32) = nI (p + 4) := by rw [show (4 : Int32) = nI 4 from rfl, nI_add]
theorem i_p2 (p : Nat) : nI p + (2 : Int32) = nI (p + 2) := by rw [show (2 : Int32) = nI 2 from rfl, nI_add]
def stoC (cells crews : Nat → Int32) (p : Nat) (aw hr sd : Int32) : Nat → Int32 := upd (upd (upd (va_cpy crews cells 0 (7 * p) 4) (7 * p + 4) aw) (7 * p + 5) hr) (7 * p + 6) sd
theorem v_X3_store {N : Nat} (hN : 70000 ≤ N) {len p : Nat} (hp : 7 * p + 7 ≤ len) (hl : len < 2147483648) (cells crews : Nat → Int32) (aw hr sd : Int32) : F_X3_store N len cells aw hr sd crews (nI p) = some (stoC cells crews p aw hr sd) := by
  unfold F_X3_store
  rw [nm_def, i_7]
  have h := lq3_run (body := fun self => B_X3_store_8 N len aw hr sd crews (nI p) self) (fun i => va_cpy crews cells 0 (7 * p) i) (fun _ => nI (7 * p)) (fun i => nI i) 4 (some (stoC cells crews p aw hr sd)) (fun self i hi => by
    show B_X3_store_8 N len aw hr sd crews (nI p) self _ _ _ = _
    unfold B_X3_store_8
    rw [if_neg (nge4 hi), bnd_of (atI_in hi (by omega)), nI_add, bnd_of (layI_in (by omega) hl), nm_def, i_s, ← cpy_s, Nat.zero_add]) (fun self => by
    show B_X3_store_8 N len aw hr sd crews (nI p) self _ _ _ = _
    unfold B_X3_store_8
    rw [if_pos (ge4 (Nat.le_refl _) (by omega)), i_p4, i_s, i_p2, bnd_of (layI_in (by omega) hl), bnd_of (layI_in (by omega) hl), bnd_of (layI_in (by omega) hl)]
    rfl) N (by omega)
  rw [cpy_0] at h
  exact h
theorem v_X3_take {N : Nat} (hN : 70000 ≤ N) {len p : Nat} (hp : 7 * p + 7 ≤ len) (hl : len < 2147483648) (cells crews : Nat → Int32) (aw hr sd : Int32) : F_X3_take N len cells aw hr sd crews (nI p) = some (cells (7 * p + 4), cells (7 * p + 5), cells (7 * p + 6), va_cpy cells crews (7 * p) 0 4) := by
  unfold F_X3_take
  rw [nm_def, i_7]
  have h := lq6_run (body := fun self => B_X3_take_8 N len cells (nI p) self) (fun _ => aw) (fun _ => hr) (fun _ => sd) (fun i => va_cpy cells crews (7 * p) 0 i) (fun _ => nI (7 * p)) (fun i => nI i) 4 (some (cells (7 * p + 4), cells (7 * p + 5), cells (7 * p + 6), va_cpy cells crews (7 * p) 0 4)) (fun self i hi => by
    show B_X3_take_8 N len cells (nI p) self _ _ _ _ _ _ = _
    unfold B_X3_take_8
    have h2 := cpy_s cells crews (7 * p) 0 i
    rw [Nat.zero_add] at h2
    rw [if_neg (nge4 hi), nI_add, bnd_of (atI_in (by omega) hl), bnd_of (layI_in hi (by omega)), nm_def, i_s, h2]) (fun self => by
    show B_X3_take_8 N len cells (nI p) self _ _ _ _ _ _ = _
    unfold B_X3_take_8
    rw [if_pos (ge4 (Nat.le_refl _) (by omega)), i_p4, i_s, i_p2, bnd_of (atI_in (by omega) hl), bnd_of (atI_in (by omega) hl), bnd_of (atI_in (by omega) hl)]) N (by omega)
  rw [cpy_0] at h
  exact h
theorem v_J7_fill {N : Nat} {m : Nat} (hm : m < N) (hm2 : m < 2147483648) (f : Nat → Int32) (v : Int32) : F_J7_fill_53178 N m f v = some (va_cpy (fun _ => v) f 0 0 m) := by
  unfold F_J7_fill_53178
  rw [nm_def]
  have h := lq3_run (body := fun self => B_J7_fill_53178_5 N m v self) (fun i => va_cpy (fun _ => v) f 0 0 i) (fun i => nI i) (fun _ => nI m) m (some (va_cpy (fun _ => v) f 0 0 m)) (fun self i hi => by
    show B_J7_fill_53178_5 N m v self _ _ _ = _
    unfold B_J7_fill_53178_5
    rw [if_neg (i_nle hi (by omega)), wr_nI hi hm2, nm_def, i_s, ← cpy_s0]) (fun self => by
    show B_J7_fill_53178_5 N m v self _ _ _ = _
    unfold B_J7_fill_53178_5
    rw [if_pos (i_le (Nat.le_refl _) hm2)]) N hm
  rw [cpy_0] at h
  exact h
theorem v_X7_clear {N : Nat} (hN : 70000 ≤ N) (a b c d : Int32) (ma : Nat → Int32) : F_X7_clear N a b c d ma = some (0, 0, 0, 57, va_cpy (fun _ => -1) ma 0 0 8) := by
  unfold F_X7_clear
  rw [bnd_of (v_J7_fill (by omega) (by omega) ma (-1))]
theorem pb_and (a b : Nat) : lN a &&& lN b = lN (a &&& b) := by
  apply Int64.toBitVec_inj.1
  show BitVec.ofNat 64 a &&& BitVec.ofNat 64 b = BitVec.ofNat 64 (a &&& b)
  apply BitVec.eq_of_getLsbD_eq
  intro i hi
  simp [hi]
theorem pb_mask (n k : Nat) : lN n &&& lN (2 ^ k - 1) = lN (n % 2 ^ k) := by rw [pb_and, Nat.and_two_pow_sub_one_eq_mod]
def nextS (sd : Nat) : Nat := (sd * 1103515245 + 12345) % 2147483648
theorem nextS_lt (sd : Nat) : nextS sd < 2147483648 := Nat.mod_lt _ (by decide)
def drawV (sd m : Nat) : Nat := nextS sd / 65536 % m
theorem v_X2_draw {sd m : Nat} (hs : sd < 2147483648) (h0 : 0 < m) (hm : m < 2147483648) : F_X2_draw (nI sd) (nI m) = some (nI (drawV sd m), nI (nextS sd)) := by
  unfold F_X2_draw
  have hx := nextS_lt sd
  rw [nI_l hs, nm_def, nm_def, nm_def, show (1103515245 : Int64) = lN 1103515245 from rfl, show (12345 : Int64) = lN 12345 from rfl, show (2147483647 : Int64) = lN (2 ^ 31 - 1) from rfl, lN_mul, lN_add, pb_mask, lN_i, if_neg (nle0 h0 hm), show (65536 : Int32) = nI 65536 from rfl]
  show nm (nI (nextS sd) / nI 65536) _ = _
  rw [pk_div hx (by decide) (by decide), nm_def, nz_ok (ne0 (by omega) hm), nm_def, pk_rem (by have := Nat.div_le_self (nextS sd) 65536; omega) h0 hm]
  rfl
theorem v_X9_draw {sd m : Nat} (hs : sd < 2147483648) (h0 : 0 < m) (hm : m < 2147483648) : F_X9_draw (nI sd) (nI m) = some (nI (drawV sd m), nI (nextS sd)) := by
  unfold F_X9_draw
  have hx := nextS_lt sd
  rw [nI_l hs, nm_def, nm_def, nm_def, show (1103515245 : Int64) = lN 1103515245 from rfl, show (12345 : Int64) = lN 12345 from rfl, show (2147483648 : Int64) = lN 2147483648 from rfl, lN_mul, lN_add, pk_lRem (by omega) (by decide) (by decide), lN_i, show (65536 : Int32) = nI 65536 from rfl]
  show nm (nI (nextS sd) / nI 65536) _ = _
  rw [pk_div hx (by decide) (by decide), nm_def, nz_ok (ne0 (by omega) hm), nm_def, pk_rem (by have := Nat.div_le_self (nextS sd) 65536; omega) h0 hm]
  rfl
theorem drawV_lt {sd m : Nat} (h : 0 < m) : drawV sd m < m := Nat.mod_lt _ h
/-! an index in its bounds or not -/
theorem no_car {c : Nat} (hc : c < 1073741824) (p : Int32) : (F_X8_isNoCar (nI c) p = some 1 ∧ F_X9_isCar (nI c) p = some 0) ∨ ∃ j, j < c ∧ p = nI j ∧ F_X8_isNoCar (nI c) p = some 0 ∧ F_X9_isCar (nI c) p = some 1 := by
  unfold F_X8_isNoCar F_X9_isCar
  by_cases h : p < 0
  · refine Or.inl ⟨if_pos h, ?_⟩
    unfold F_X9_in
    rw [if_pos h]
    exact bg_0 _
  · obtain ⟨j, hj, rfl⟩ := nI_of h
    unfold F_X9_in
    rw [if_neg h, if_neg h]
    rcases Nat.lt_or_ge j c with q | q
    · refine Or.inr ⟨j, q, rfl, if_pos (i_lt q (by omega)), ?_⟩
      rw [if_neg (fun e => by have := (i_sub1 hc (by omega)).mp e; omega)]
      exact bg_1 _
    · refine Or.inl ⟨if_neg (i_nlt q hj), ?_⟩
      have e : nI c - 1 < nI j := by
        rw [Int32.lt_iff_toInt_lt, nI_toInt hj, show (nI c - 1 : Int32) = nI c - nI 1 from rfl, pk_sub_toInt (by omega) (by omega)]
        omega
      rw [if_pos e]
      exact bg_0 _
theorem no_one {c : Nat} (hc : c < 1073741824) (p : Int32) : (F_X8_isNoSleeper (nI c) p = some 1 ∧ F_X9_isOne (nI c) p = some 0) ∨ ∃ j, j < c ∧ p = nI j ∧ F_X8_isNoSleeper (nI c) p = some 0 ∧ F_X9_isOne (nI c) p = some 1 := no_car hc p
theorem bt_all : ∀ n, n ≤ 8 → ∀ i, i < 32 → bt (((1 : Int32) <<< (nI n &&& 31)) - 1) i = decide (i < n) := by decide +kernel
theorem all_nI : ∀ n, n ≤ 8 → ((1 : Int32) <<< (nI n &&& 31)) - 1 = nI (2 ^ n - 1) := by decide +kernel
theorem bt_nI {m i : Nat} (hi : i < 32) : bt (nI m) i = m.testBit i := by
  show (BitVec.ofNat 32 m).getLsbD i = _
  rw [BitVec.getLsbD_ofNat, decide_eq_true hi, Bool.true_and]
theorem no_set {n : Nat} (hn : n ≤ 8) (p : Int32) : (F_X8_isNoSet (nI n) p = some 1 ∧ F_X9_isSet (nI n) p = some 0) ∨ (F_X8_isNoSet (nI n) p = some 0 ∧ F_X9_isSet (nI n) p = some 1 ∧ ∀ i, bt p i = true → i < n) := by
  unfold F_X8_isNoSet F_X9_isSet F_X8_allSleepers
  rw [bnd_some, all_nI n hn]
  by_cases h : ∀ i, i < 32 → bt p i = true → i < n
  · refine Or.inr ⟨if_pos (b_ext (fun i hi => ?_)), ?_, fun i hi => ?_⟩
    · rw [b_and, bt_not _ hi, b_0, ← all_nI n hn, bt_all n hn i hi]
      cases e : bt p i with
      | false => rfl
      | true => rw [decide_eq_true (h i hi e)]; rfl
    · have hp : p = nI (p.toBitVec.toNat % 2 ^ n) := by
        rw [← pk_and p (m := nI (2 ^ n - 1)) n (by rw [pk_tn (by have := Nat.pow_le_pow_right (n := 2) (by decide) hn; omega)])]
        refine b_ext (fun i hi => ?_)
        rw [b_and, ← all_nI n hn, bt_all n hn i hi]
        cases e : bt p i with
        | false => rfl
        | true => rw [decide_eq_true (h i hi e)]; rfl
      have hl := Nat.mod_lt p.toBitVec.toNat (Nat.two_pow_pos n)
      have hq := Nat.pow_le_pow_right (n := 2) (by decide) hn
      generalize p.toBitVec.toNat % 2 ^ n = j at hp hl
      rw [hp]
      unfold F_X9_in
      rw [if_neg (i_n0 (by omega)), if_neg (i_nlt (by omega) (by omega))]
      exact bg_1 _
    · rcases Nat.lt_or_ge i 32 with q | q
      · exact h i q hi
      · rw [b_big q] at hi
        cases hi
  · obtain ⟨i, hi, hb, hin⟩ : ∃ i, i < 32 ∧ bt p i = true ∧ ¬ i < n := by
      refine Classical.byContradiction (fun hno => h (fun i hi hb => Classical.byContradiction (fun hin => hno ⟨i, hi, hb, hin⟩)))
    refine Or.inl ⟨if_neg (fun e => ?_), ?_⟩
    · have e2 : bt (p &&& (nI (2 ^ n - 1) ^^^ (-1))) i = bt 0 i := by rw [e]
      rw [b_and, bt_not _ hi, b_0, ← all_nI n hn, bt_all n hn i hi, hb, decide_eq_false hin] at e2
      cases e2
    · unfold F_X9_in
      by_cases q : p < 0
      · rw [if_pos q]
        exact bg_0 _
      · obtain ⟨j, hj, rfl⟩ := nI_of q
        rw [if_neg q, if_pos (i_lt ?_ hj)]
        · exact bg_0 _
        · rcases Nat.lt_or_ge (2 ^ n - 1) j with w | w
          · exact w
          · rw [bt_nI hi, Nat.testBit_lt_two_pow (Nat.lt_of_lt_of_le (by have := Nat.two_pow_pos n; omega : j < 2 ^ n) (Nat.pow_le_pow_right (by decide) (by omega)))] at hb
            cases hb
theorem in_out {p : Int32} {m : Nat} (hm : m < 1073741824) (h : ∀ j, j ≤ m → p ≠ nI j) : F_X9_in p 0 (nI m) = some 0 := by
  unfold F_X9_in
  by_cases q : p < 0
  · exact if_pos q
  · obtain ⟨j, hj, rfl⟩ := nI_of q
    rw [if_neg q]
    rcases Nat.lt_or_ge m j with w | w
    · exact if_pos (i_lt w hj)
    · exact absurd rfl (h j w)
theorem in_in {j m : Nat} (hm : m < 1073741824) (h : j ≤ m) : F_X9_in (nI j) 0 (nI m) = some 1 := by
  unfold F_X9_in
  rw [if_neg (i_n0 (by omega)), if_neg (i_nlt h (by omega))]

theorem atI_in {n i : Nat} {f : Nat → Int32} (h : i < n) (hn : n < 2147483648) : F_X8_at n f (nI i) = some (f i) := by
  unfold F_X8_at
  rw [if_neg (i_n0 (by omega)), if_neg (o_nge h hn), rd_nI h hn]
theorem atI_out {n i : Nat} {f : Nat → Int32} (h : n ≤ i) (hi : i < 2147483648) : F_X8_at n f (nI i) = some 0 := by
  unfold F_X8_at
  rw [if_neg (i_n0 hi), if_pos (o_ge h hi)]
theorem atI_neg {n : Nat} {f : Nat → Int32} {x : Int32} (h : x < 0) : F_X8_at n f x = some 0 := by
  unfold F_X8_at
  rw [if_pos h]
theorem layI_in {n i : Nat} {f : Nat → Int32} {x : Int32} (h : i < n) (hn : n < 2147483648) : F_X8_lay n f (nI i) x = some (upd f i x) := by
  unfold F_X8_lay
  rw [if_neg (i_n0 (by omega)), if_neg (o_nge h hn), wr_nI h hn]
theorem layI_out {n i : Nat} {f : Nat → Int32} {x : Int32} (h : n ≤ i) (hi : i < 2147483648) : F_X8_lay n f (nI i) x = some f := by
  unfold F_X8_lay
  rw [if_neg (i_n0 hi), if_pos (o_ge h hi)]
theorem v_X0_snorers {sn : Nat → Int32} {cr aw : Int32} {h : Nat} (hh : h < 12) : F_X0_snorers sn cr aw (nI h) = some ((cr &&& (aw ^^^ (-1))) &&& sn h) := by
  unfold F_X0_snorers
  rw [bnd_of (atI_in hh (by omega))]
theorem v_X0_snorers12 {sn : Nat → Int32} {cr aw : Int32} : F_X0_snorers sn cr aw (nI 12) = some ((cr &&& (aw ^^^ (-1))) &&& 0) := by
  unfold F_X0_snorers
  rw [bnd_of (atI_out (Nat.le_refl 12) (by omega))]
theorem v_X0_noise {N : Nat} (hN : 70000 ≤ N) {lo ja : Nat → Int32} {s : Nat} (hs : s < 8) (sn : Int32) :
    F_X0_noise N lo ja (nI s) sn = some (sumN (fun t => if bt (sn &&& ja s) t = true then lo t else 0) 8) := by
  unfold F_X0_noise
  rw [bnd_of (atI_in hs (by omega))]
  show F_X0_noise_17 N lo ja (nI s) sn N (sn &&& ja s) 0 0 = _
  refine lq3_run (fun _ => sn &&& ja s) (fun i => sumN (fun t => if bt (sn &&& ja s) t = true then lo t else 0) i) (fun i => nI i) 8 _ (fun self i hi => ?_) (fun self => ?_) N (by omega)
  · unfold B_X0_noise_17
    rw [if_neg (nge8 hi)]
    by_cases q : bt (sn &&& ja s) i = true
    · rw [if_pos ((bt_one (by omega)).mpr q), rd_nI hi (by omega), sumN, if_pos q]
      show self _ _ (nI i + 1) = _
      rw [i_s]
    · rw [if_neg (fun e => q ((bt_one (by omega)).mp e)), sumN, if_neg q, x_add0]
      show self _ _ (nI i + 1) = _
      rw [i_s]
  · unfold B_X0_noise_17
    rw [if_pos (ge8 (Nat.le_refl _) (by omega))]
def wokI (lo de ja : Nat → Int32) (as sn : Int32) : Int32 := setN (fun s => bt as s && !decide (sumN (fun t => if bt (sn &&& ja s) t = true then lo t else 0) 8 ≤ de s)) 8
theorem v_X0_woken {N : Nat} (hN : 70000 ≤ N) {lo de ja : Nat → Int32} (as sn : Int32) :
    F_X0_woken N lo de ja as sn = some (wokI lo de ja as sn) := by
  unfold F_X0_woken
  refine lq2_run (fun i => setN (fun s => bt as s && !decide (sumN (fun t => if bt (sn &&& ja s) t = true then lo t else 0) 8 ≤ de s)) i) (fun i => nI i) 8 _ (fun self i hi => ?_) (fun self => ?_) N (by omega)
  · unfold B_X0_woken_5
    rw [if_neg (nge8 hi)]
    by_cases q : bt as i = true
    · rw [if_pos ((bt_one (by omega)).mpr q), bnd_of (v_X0_noise hN hi sn), rd_nI hi (by omega), setN]
      by_cases w : sumN (fun t => if bt (sn &&& ja i) t = true then lo t else 0) 8 ≤ de i
      · rw [if_pos w, if_neg (by rw [q, decide_eq_true w]; decide)]
        show self _ (nI i + 1) = _
        rw [i_s]
      · rw [if_neg w, if_pos (by rw [q, decide_eq_false w]; decide)]
        show self _ (nI i + 1) = _
        rw [i_s]
    · have q2 : bt as i = false := by simpa using q
      rw [if_neg (fun e => q ((bt_one (by omega)).mp e)), setN, if_neg (by rw [q2, Bool.false_and]; decide)]
      show self _ (nI i + 1) = _
      rw [i_s]
  · unfold B_X0_woken_5
    rw [if_pos (ge8 (Nat.le_refl _) (by omega))]
    rfl
def wokC (lo de ja sn : Nat → Int32) (cr aw : Int32) (h : Nat) : Int32 := wokI lo de ja (cr &&& (aw ^^^ (-1))) ((cr &&& (aw ^^^ (-1))) &&& sn h)
theorem v_X0_afterHour {N : Nat} (hN : 70000 ≤ N) {lo de ja sn crs : Nat → Int32} {aw : Int32} {h : Nat} (hh : h < 12) :
    F_X0_afterHour N 4 lo de ja sn crs aw (nI h) = some (orN aw (fun k => wokC lo de ja sn (crs k) aw h) 4) := by
  unfold F_X0_afterHour
  refine lq2_run (fun i => orN aw (fun k => wokC lo de ja sn (crs k) aw h) i) (fun i => nI i) 4 _ (fun self i hi => ?_) (fun self => ?_) N (by omega)
  · unfold B_X0_afterHour_6
    rw [if_neg (o_nge hi (by omega)), rd_nI hi (by omega), rd_nI hi (by omega), bnd_of (v_X0_snorers hh), bnd_of (v_X0_woken hN _ _)]
    show self _ (nI i + 1) = _
    rw [i_s]
    rfl
  · unfold B_X0_afterHour_6
    rw [if_pos (o_ge (Nat.le_refl _) (by omega))]
def moC (lo de ja sn : Nat → Int32) (cr : Int32) : Nat → Int32 → Nat → Int32
  | 0, aw, _ => aw
  | m + 1, aw, h => moC lo de ja sn cr m (aw ||| wokC lo de ja sn cr aw h) (h + 1)
theorem bt_wokI {lo de ja : Nat → Int32} {as sn : Int32} (s : Nat) : bt (wokI lo de ja as sn) s = (decide (s < 8) && (bt as s && !decide (sumN (fun t => if bt (sn &&& ja s) t = true then lo t else 0) 8 ≤ de s))) := bt_setN _ (by omega) s
theorem wokI_0 {lo de ja : Nat → Int32} {as sn : Int32} (h : ∀ s, s < 8 → bt as s = true → sumN (fun t => if bt (sn &&& ja s) t = true then lo t else 0) 8 ≤ de s) : wokI lo de ja as sn = 0 := by
  refine b_ext (fun s _ => ?_)
  rw [bt_wokI, b_0]
  by_cases hs : s < 8
  · rw [decide_eq_true hs, Bool.true_and]
    cases e : bt as s with
    | false => rfl
    | true => rw [decide_eq_true (h s hs e)]; rfl
  · rw [decide_eq_false hs]; rfl
theorem sumN_0 {g : Nat → Int32} : ∀ n : Nat, (∀ i, i < n → g i = 0) → sumN g n = 0
  | 0, _ => rfl
  | n + 1, h => by rw [sumN, sumN_0 n (fun i hi => h i (by omega)), h n (by omega)]; rfl
theorem v_X0_morningOfOne {N : Nat} (hN : 70000 ≤ N) {lo de ja sn : Nat → Int32} {cr aw : Int32} (hde : ∀ s, s < 8 → bt cr s = true → 0 ≤ de s) {h : Nat} (hh : h ≤ 12) :
    F_X0_morningOfOne N lo de ja sn cr aw (nI h) = some (moC lo de ja sn cr (12 - h) aw h) := by
  unfold F_X0_morningOfOne
  have key : ∀ (m n i : Nat) (a hd : Int32), i + m = 12 → m < n → (∀ s, s < 8 → bt (cr &&& (a ^^^ (-1))) s = true → sumN (fun t => if bt (hd &&& ja s) t = true then lo t else 0) 8 ≤ de s) →
      F_X0_morningOfOne_9 N lo de ja sn cr aw (nI h) n a hd (nI i) = some (moC lo de ja sn cr m a i) := by
    intro m
    induction m with
    | zero =>
      intro n i a hd hi hn _
      obtain ⟨k, rfl⟩ : ∃ k, n = k + 1 := ⟨n - 1, by omega⟩
      have e1 : i = 12 := by omega
      subst e1
      show B_X0_morningOfOne_9 N lo de ja sn cr aw (nI h) (F_X0_morningOfOne_9 N lo de ja sn cr aw (nI h) k) a hd (nI 12) = _
      unfold B_X0_morningOfOne_9
      rw [if_pos (ge12 (Nat.le_refl _) (by omega))]
      rfl
    | succ m ih =>
      intro n i a hd hi hn hJ
      obtain ⟨k, rfl⟩ : ∃ k, n = k + 1 := ⟨n - 1, by omega⟩
      show B_X0_morningOfOne_9 N lo de ja sn cr aw (nI h) (F_X0_morningOfOne_9 N lo de ja sn cr aw (nI h) k) a hd (nI i) = _
      unfold B_X0_morningOfOne_9
      rw [if_neg (nge12 (by omega)), bnd_of (v_X0_snorers (by omega))]
      by_cases q : (cr &&& (a ^^^ (-1))) &&& sn i = hd
      · rw [if_pos q]
        show F_X0_morningOfOne_9 N lo de ja sn cr aw (nI h) k a hd (nI i + 1) = _
        rw [i_s, ih k (i + 1) a hd (by omega) (by omega) hJ, moC, wokC, q, wokI_0 hJ, x_or0]
      · rw [if_neg q, bnd_of (v_X0_woken hN _ _)]
        show F_X0_morningOfOne_9 N lo de ja sn cr aw (nI h) k (a ||| wokC lo de ja sn cr a i) ((cr &&& (a ^^^ (-1))) &&& sn i) (nI i + 1) = _
        rw [i_s, moC]
        refine ih k (i + 1) _ _ (by omega) (by omega) (fun s hs e => ?_)
        have e1 : (bt cr s && !(bt a s || bt (wokC lo de ja sn cr a i) s)) = true := by
          rw [b_and, bt_not _ (by omega), b_or] at e
          exact e
        have e2 : bt cr s = true ∧ bt a s = false ∧ bt (wokC lo de ja sn cr a i) s = false := by
          revert e1
          cases bt cr s <;> cases bt a s <;> cases bt (wokC lo de ja sn cr a i) s <;> decide
        have e3 := e2.2.2
        rw [wokC, bt_wokI, decide_eq_true hs, Bool.true_and, b_and, bt_not _ (by omega), e2.1, e2.2.1] at e3
        by_cases w : sumN (fun t => if bt ((cr &&& (a ^^^ (-1))) &&& sn i &&& ja s) t = true then lo t else 0) 8 ≤ de s
        · exact w
        · rw [decide_eq_false w] at e3
          exact absurd e3 (by decide)
  refine key (12 - h) N h aw 0 (by omega) (by omega) (fun s hs e => ?_)
  rw [sumN_0 8 (fun t _ => by rw [b_and, b_0, Bool.false_and]; rfl)]
  refine hde s hs ?_
  rw [b_and] at e
  revert e
  cases bt cr s <;> simp
theorem v_X0_morning {N : Nat} (hN : 70000 ≤ N) {lo de ja sn crs : Nat → Int32} {aw : Int32} (hde : ∀ k, k < 4 → ∀ s, s < 8 → bt (crs k) s = true → 0 ≤ de s) {h : Nat} (hh : h ≤ 12) :
    F_X0_morning N 4 lo de ja sn crs aw (nI h) = some (orN aw (fun k => moC lo de ja sn (crs k) (12 - h) aw h) 4) := by
  unfold F_X0_morning
  refine lq2_run (fun i => orN aw (fun k => moC lo de ja sn (crs k) (12 - h) aw h) i) (fun i => nI i) 4 _ (fun self i hi => ?_) (fun self => ?_) N (by omega)
  · unfold B_X0_morning_6
    rw [if_neg (o_nge hi (by omega)), rd_nI hi (by omega), bnd_of (v_X0_morningOfOne hN (hde i hi) hh)]
    show self _ (nI i + 1) = _
    rw [i_s]
    rfl
  · unfold B_X0_morning_6
    rw [if_pos (o_ge (Nat.le_refl _) (by omega))]

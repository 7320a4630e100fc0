theorem small8 {x : Int32} (h : ∀ i, 8 ≤ i → bt x i = false) : ∃ m, m < 256 ∧ x = nI m := by
  refine ⟨x.toBitVec.toNat % 2 ^ 8, Nat.mod_lt _ (by decide), ?_⟩
  rw [← pk_and x (m := 255) 8 (by decide)]
  refine b_ext (fun i hi => ?_)
  rw [b_and, b_255]
  by_cases q : i < 8
  · rw [decide_eq_true q, Bool.and_true]
  · rw [decide_eq_false q, Bool.and_false, h i (by omega)]
def cnt (p : Nat → Bool) : Nat → Nat
  | 0 => 0
  | n + 1 => cnt p n + if p n = true then 1 else 0
theorem cnt_congr {p q : Nat → Bool} : ∀ {n : Nat}, (∀ i, i < n → p i = q i) → cnt p n = cnt q n
  | 0, _ => rfl
  | n + 1, h => by rw [cnt, cnt, cnt_congr (fun i hi => h i (by omega)), h n (by omega)]
theorem cnt_le {p : Nat → Bool} : ∀ n : Nat, cnt p n ≤ n
  | 0 => Nat.le_refl 0
  | n + 1 => by
    have h := cnt_le (p := p) n
    rw [cnt]
    by_cases q : p n = true
    · rw [if_pos q]; omega
    · rw [if_neg q]; omega
theorem v_X9_bits {N : Nat} (hN : 70000 ≤ N) (x : Int32) : F_X9_bits N x = some (nI (cnt (bt x) 8)) := by
  unfold F_X9_bits
  refine lq2_run (fun i => nI (cnt (bt x) i)) (fun i => nI i) 8 _ (fun self i hi => ?_) (fun self => ?_) N (by omega)
  · unfold B_X9_bits_4
    rw [if_neg (nge8 hi), bt_tst (by omega), cnt]
    by_cases q : bt x i = true
    · rw [if_pos q, if_pos q]
      show self (nI _ + 1) (nI i + 1) = _
      rw [i_s, i_s]
    · rw [if_neg q, if_neg q]
      show self (nI _ + 0) (nI i + 1) = _
      rw [x_add0, i_s]
      rfl
  · unfold B_X9_bits_4
    rw [if_pos (ge8 (Nat.le_refl _) (by omega))]
theorem bitc_all : ∀ m, m < 256 → F_J6_bitCount_0f7a4 (nI m) = some (nI (cnt (bt (nI m)) 8)) := by decide +kernel
theorem v_J6_bitCount {x : Int32} (h : ∀ i, 8 ≤ i → bt x i = false) : F_J6_bitCount_0f7a4 x = some (nI (cnt (bt x) 8)) := by
  obtain ⟨m, hm, rfl⟩ := small8 h
  exact bitc_all m hm
theorem cpy_0 (a b : Nat → Int32) (f t : Nat) : va_cpy a b f t 0 = b := by
  funext j
  exact if_neg (by omega)
theorem cpy_s (a b : Nat → Int32) (f t i : Nat) : upd (va_cpy a b f t i) (t + i) (a (f + i)) = va_cpy a b f t (i + 1) := by
  funext j
  by_cases e : j = t + i
  · subst e
    rw [pk_us, pk_cpy_in (by omega) (by omega), Nat.add_sub_cancel_left]
  · rw [pk_un e]
    by_cases q : t ≤ j ∧ j < t + i
    · rw [pk_cpy_in q.1 q.2, pk_cpy_in q.1 (by omega)]
    · rw [pk_cpy_out (by omega), pk_cpy_out (by omega)]
theorem v_X9_copy {N : Nat} (hN : 70000 ≤ N) {a b : Nat → Int32} {na nb f t : Nat} (ha : f + 10 ≤ na) (hb : t + 10 ≤ nb) (ha2 : na < 2147483648) (hb2 : nb < 2147483648) : F_X9_copy N na nb a b (nI f) (nI t) = some (va_cpy a b f t 10) := by
  unfold F_X9_copy
  have h := lq2_run (body := fun self => B_X9_copy_3 N na nb a (nI f) (nI t) self) (fun i => va_cpy a b f t i) (fun i => nI i) 10 (some (va_cpy a b f t 10)) (fun self i hi => by
    show B_X9_copy_3 N na nb a (nI f) (nI t) self _ _ = _
    unfold B_X9_copy_3
    rw [if_neg (nge10 hi), nI_add, nI_add, rd_nI (by omega) ha2, wr_nI (by omega) hb2, cpy_s]
    show self _ (nI i + 1) = _
    rw [i_s]) (fun self => by
    show B_X9_copy_3 N na nb a (nI f) (nI t) self _ _ = _
    unfold B_X9_copy_3
    rw [if_pos (ge10 (Nat.le_refl _) (by omega))]) N (by omega)
  rw [cpy_0] at h
  exact h
theorem v_X9_goOut {N : Nat} (hN : 70000 ≤ N) {m : Nat} (hm : 10 ≤ m ∧ m < 2147483648) (b : Nat → Int32) : ∃ g : Nat → Int32, F_X9_goOut N m b = some g ∧ (∀ s, s < 8 → g s = -1) ∧ g 8 = 0 ∧ g 9 = 0 := by
  refine ⟨upd (upd (va_cpy (fun _ => -1) b 0 0 8) 8 0) 9 0, ?_, fun s hs => ?_, ?_, ?_⟩
  · unfold F_X9_goOut
    have h := lq2_run (body := fun self => B_X9_goOut_2 N m self) (fun i => va_cpy (fun _ => -1) b 0 0 i) (fun i => nI i) 8 (some (upd (upd (va_cpy (fun _ => -1) b 0 0 8) 8 0) 9 0)) (fun self i hi => by
      show B_X9_goOut_2 N m self _ _ = _
      unfold B_X9_goOut_2
      rw [if_neg (nge8 hi), wr_nI (by omega) hm.2, ← cpy_s, Nat.zero_add]
      show self _ (nI i + 1) = _
      rw [i_s]) (fun self => by
      show B_X9_goOut_2 N m self _ _ = _
      unfold B_X9_goOut_2
      rw [if_pos (ge8 (Nat.le_refl _) (by omega)), show (8 : Int32) = nI 8 from rfl, show (9 : Int32) = nI 9 from rfl, wr_nI (by omega) hm.2, wr_nI (by omega) hm.2]) N (by omega)
    rw [cpy_0] at h
    exact h
  · rw [pk_un (by omega), pk_un (by omega), pk_cpy_in (by omega) (by omega)]
  · rw [pk_un (by omega), pk_us]
  · rw [pk_us]
theorem v_X9_begin {N : Nat} (hN : 70000 ≤ N) (a b : Nat → Int32) : F_X9_begin N a b = some (upd (upd (va_cpy a b 0 0 10) 8 0) 9 0) := by
  unfold F_X9_begin
  have h : F_X9_copy N 10 10 a b 0 0 = some (va_cpy a b 0 0 10) := v_X9_copy hN (f := 0) (t := 0) (by omega) (by omega) (by omega) (by omega)
  rw [bnd_of h, show (8 : Int32) = nI 8 from rfl, show (9 : Int32) = nI 9 from rfl, wr_nI (by omega) (by omega), wr_nI (by omega) (by omega)]
theorem v_X9_thereIn {N : Nat} (hN : 70000 ≤ N) {m n : Nat} (hm : 10 ≤ m ∧ m < 2147483648) (hn : n ≤ 8) (c : Nat → Int32) (v : Int32) : F_X9_thereIn N m (nI n) c v = some (setN (fun s => decide (c s = v)) n) := by
  unfold F_X9_thereIn
  refine lq2_run (fun i => setN (fun s => decide (c s = v)) i) (fun i => nI i) n _ (fun self i hi => ?_) (fun self => ?_) N (by omega)
  · unfold B_X9_thereIn_5
    rw [if_neg (i_nle hi (by omega)), rd_nI (by omega) (by omega), setN]
    by_cases q : c i = v
    · rw [if_pos q, if_pos (decide_eq_true q)]
      show self _ (nI i + 1) = _
      rw [i_s]
    · rw [if_neg q, if_neg (by rw [decide_eq_false q]; decide)]
      show self (_ ||| 0) (nI i + 1) = _
      rw [i_s, x_or0]
  · unfold B_X9_thereIn_5
    rw [if_pos (i_le (Nat.le_refl _) (by omega))]
section Model2
variable {n : Nat} {pi lo de fr to : Nat → Nat} {of : Nat → Int32}
theorem v_X9_morning {N : Nat} (hN : 70000 ≤ N) (M : MOk n pi lo de fr to of) {tu : Int32} {c : Nat → Int32} (hc : CaOk n c) {h : Nat} (hh : h ≤ 12) (h9 : c 9 = nI h) :
    ∃ c' : Nat → Int32, F_X9_morning N (nI n) tu of c = some (c' 8, c') ∧ ∀ s, bt (c' 8) s = moG (jarT tu pi) (iF lo) (iF de) (liveT n fr to) (innM n c) (12 - h) (bt (c 8)) h s := by
  obtain ⟨c', e1, e2, e3, e4⟩ := v_X9_sleepOn hN M (tu := tu) (m := 10) (by omega) hc hh h9
  refine ⟨c', ?_, e4⟩
  unfold F_X9_morning
  rw [bnd_of e1, show (8 : Int32) = nI 8 from rfl, rd_nI (by omega) (by omega)]
theorem v_X9_snorers {N : Nat} (hN : 70000 ≤ N) (M : MOk n pi lo de fr to of) {m : Nat} (hm : 10 ≤ m ∧ m < 2147483648) {c : Nat → Int32} {k : Nat} (hk : k < 4) {h : Nat} (hh : h ≤ 12) :
    F_X9_snorers N m (nI n) of c (nI k) (nI h) = some (setN (fun s => innM n c k s && (!bt (c 8) s && liveT n fr to h s)) n) := by
  have h8 := M.1
  unfold F_X9_snorers
  refine lq2_run (fun i => setN (fun s => innM n c k s && (!bt (c 8) s && liveT n fr to h s)) i) (fun i => nI i) n _ (fun self i hi => ?_) (fun self => ?_) N (by omega)
  · unfold B_X9_snorers_6
    rw [if_neg (i_nle hi (by omega)), rd_nI (by omega) (by omega), setN]
    by_cases q : c i = nI k
    · rw [if_pos q, bnd_of (v_X9_snores M hm hi hh)]
      have e1 : c i ≠ -1 := by rw [q]; exact i_m1 (by omega)
      by_cases w : c i ≠ -1 ∧ bt (c 8) i = false ∧ liveT n fr to h i = true
      · rw [if_pos w, if_neg (by decide), if_pos (by rw [innM, decide_eq_true ⟨hi, q⟩, w.2.1, w.2.2]; rfl)]
        show self _ (nI i + 1) = _
        rw [i_s]
      · rw [if_neg w, if_pos rfl, if_neg (fun e => w ?_)]
        · show self (_ ||| 0) (nI i + 1) = _
          rw [i_s, x_or0]
        · have e2 := (Bool.and_eq_true _ _).mp e
          have e3 := (Bool.and_eq_true _ _).mp e2.2
          exact ⟨e1, by simpa using e3.1, e3.2⟩
    · rw [if_neg q, if_neg (by rw [innM, decide_eq_false (fun e => q e.2), Bool.false_and]; decide)]
      show self (_ ||| 0) (nI i + 1) = _
      rw [i_s, x_or0]
  · unfold B_X9_snorers_6
    rw [if_pos (i_le (Nat.le_refl _) (by omega))]
/-! out of tune: some two of q jar -/
def outT (n : Nat) (jar : Nat → Nat → Bool) (q : Nat → Bool) : Bool := anyN (fun s => q s && anyN (fun t => q t && jar s t) n) n
def outA (tu : Int32) (pi : Nat → Nat) (q : Nat → Bool) (a : Nat) : Bool := anyN (fun b => q a && (q b && jarT tu pi a b)) a
theorem jarT_comm {tu : Int32} {s t : Nat} (hs : pi s < 12) (ht : pi t < 12) : jarT tu pi s t = jarT tu pi t s := by
  unfold jarT
  rw [apN_comm _ hs _ ht]
  by_cases e : t = s
  · subst e; rfl
  · rw [decide_eq_true e, decide_eq_true (show s ≠ t from fun q => e q.symm)]
theorem outT_eq {tu : Int32} (hp : ∀ s, s < n → pi s < 12) (q : Nat → Bool) : outT n (jarT tu pi) q = anyN (outA tu pi q) n := by
  cases e : anyN (outA tu pi q) n with
  | true =>
    obtain ⟨a, ha, h1⟩ := anyN_iff.mp e
    obtain ⟨b, hb, h2⟩ := anyN_iff.mp h1
    have h3 := (Bool.and_eq_true _ _).mp h2
    exact anyN_iff.mpr ⟨a, ha, by rw [h3.1, Bool.true_and]; exact anyN_iff.mpr ⟨b, by omega, h3.2⟩⟩
  | false =>
    cases e2 : outT n (jarT tu pi) q with
    | false => rfl
    | true =>
      obtain ⟨a, ha, h1⟩ := anyN_iff.mp e2
      have h3 := (Bool.and_eq_true _ _).mp h1
      obtain ⟨b, hb, h4⟩ := anyN_iff.mp h3.2
      have h5 := (Bool.and_eq_true _ _).mp h4
      have key : ∀ x y, x < n → y < x → q x = true → q y = true → jarT tu pi x y = true → False := fun x y hx hy q1 q2 q3 => by
        have h6 : anyN (outA tu pi q) n = true := anyN_iff.mpr ⟨x, hx, anyN_iff.mpr ⟨y, hy, by rw [q1, q2, q3]; rfl⟩⟩
        rw [e] at h6
        cases h6
      rcases Nat.lt_or_ge b a with w | w
      · exact (key a b ha w h3.1 h5.1 h5.2).elim
      · have ne : b ≠ a := fun z => by
          have h7 := h5.2
          subst z
          unfold jarT at h7
          rw [decide_eq_false (fun z => z rfl), Bool.false_and] at h7
          cases h7
        exact (key b a hb (by omega) h5.1 h3.1 (by rw [jarT_comm (hp b hb) (hp a ha)]; exact h5.2)).elim
def b2i (b : Bool) : Int32 := if b = true then 1 else 0
theorem v_X9_isOut {N : Nat} (hN : 70000 ≤ N) (M : MOk n pi lo de fr to of) {tu : Int32} {m : Nat} (hm : 10 ≤ m ∧ m < 2147483648) {c : Nat → Int32} {k : Nat} (hk : k < 4) {h : Nat} (hh : h < 12) :
    F_X9_isOut N m (nI n) tu of c (nI k) (nI h) = some (b2i (outT n (jarT tu pi) (fun s => innM n c k s && (!bt (c 8) s && liveT n fr to h s)))) := by
  have h8 := M.1
  unfold F_X9_isOut
  rw [if_pos (lt12 hh), bnd_of (v_X9_snorers hN M hm hk (by omega)), outT_eq (fun s hs => (M.2 s hs).2.2.2.2.2.1)]
  obtain ⟨q, hqe⟩ : ∃ q : Nat → Bool, q = fun s => innM n c k s && (!bt (c 8) s && liveT n fr to h s) := ⟨_, rfl⟩
  rw [← hqe]
  have hq : ∀ i, i < n → bt (setN q n) i = q i := fun i hi => by
    rw [bt_setN _ (by omega), decide_eq_true hi, Bool.true_and]
  generalize setN q n = S at hq ⊢
  refine lq3_run (fun _ => S) (fun i => b2i (anyN (outA tu pi q) i)) (fun i => nI i) n _ (fun self a ha => ?_) (fun self => ?_) N (by omega)
  · unfold B_X9_isOut_23
    rw [if_neg (i_nle ha (by omega))]
    have hi := lq4_run (body := fun self2 => B_X9_isOut_35 N m (nI n) tu of c (nI k) (nI h) self self2) (fun _ => S) (fun i => b2i (anyN (outA tu pi q) a || anyN (fun b => q a && (q b && jarT tu pi a b)) i)) (fun _ => nI a) (fun i => nI i) a (self S (b2i (anyN (outA tu pi q) (a + 1))) (nI (a + 1))) (fun self2 b hb => by
      show B_X9_isOut_35 N m (nI n) tu of c (nI k) (nI h) self self2 S _ (nI a) (nI b) = _
      unfold B_X9_isOut_35
      rw [if_neg (i_nle hb (by omega)), anyN]
      by_cases w : (anyN (outA tu pi q) a || anyN (fun b => q a && (q b && jarT tu pi a b)) b) = true
      · rw [w, if_neg (by decide), ← Bool.or_assoc, w]
        show self2 S 1 (nI a) (nI b + 1) = _
        rw [i_s]
        rfl
      · have w2 : (anyN (outA tu pi q) a || anyN (fun b => q a && (q b && jarT tu pi a b)) b) = false := by simpa using w
        rw [w2, if_pos (show b2i false = 0 from rfl), bnd_of (v_X9_has (by omega)), hq a ha, ← Bool.or_assoc, w2, Bool.false_or]
        cases qa : q a with
        | false =>
          rw [if_pos (show (if false = true then (1 : Int32) else 0) = 0 from rfl)]
          show self2 S 0 (nI a) (nI b + 1) = _
          rw [i_s]
          rfl
        | true =>
          rw [if_pos rfl, if_neg (by decide), bnd_of (v_X9_has (by omega)), hq b (by omega), Bool.true_and]
          cases qb : q b with
          | false =>
            rw [if_pos (show (if false = true then (1 : Int32) else 0) = 0 from rfl)]
            show self2 S 0 (nI a) (nI b + 1) = _
            rw [i_s]
            rfl
          | true =>
            have pa := (M.2 a ha).2.2.2.2.2.1
            have pb := (M.2 b (by omega)).2.2.2.2.2.1
            rw [if_pos rfl, if_neg (by decide), bnd_of (v_X9_pitchOf M ha), bnd_of (v_X9_pitchOf M (by omega)), bnd_of (v_X9_apart _ pa _ pb), bnd_of (v_X9_has (by have := apN_lt _ pa _ pb; omega)), Bool.true_and, jarT, decide_eq_true (by omega : b ≠ a), Bool.true_and]
            by_cases z : bt tu (apN (pi a) (pi b)) = true
            · rw [if_pos z, if_neg (by decide), z]
              show self2 S 0 (nI a) (nI b + 1) = _
              rw [i_s]
              rfl
            · have z2 : bt tu (apN (pi a) (pi b)) = false := by simpa using z
              rw [if_neg z, if_pos rfl, z2]
              show self2 S 1 (nI a) (nI b + 1) = _
              rw [i_s]
              rfl) (fun self2 => by
      show B_X9_isOut_35 N m (nI n) tu of c (nI k) (nI h) self self2 S _ (nI a) (nI a) = _
      unfold B_X9_isOut_35
      rw [if_pos (i_le (Nat.le_refl _) (by omega))]
      show self S _ (nI a + 1) = _
      rw [i_s]
      rfl) N (by omega)
    rw [show anyN (fun b => q a && (q b && jarT tu pi a b)) 0 = false from rfl, Bool.or_false] at hi
    exact hi
  · unfold B_X9_isOut_23
    rw [if_pos (i_le (Nat.le_refl _) (by omega))]
    cases anyN (outA tu pi q) n with
    | true => exact bg_1 _
    | false => exact bg_0 _
end Model2

def EarOk (n : Nat) (tu : Int32) (pi lo de fr to : Nat → Nat) (lou dep ja sn : Nat → Int32) : Prop :=
  (∀ s, s < n → lou s = nI (lo s)) ∧ (∀ s, s < n → dep s = nI (de s)) ∧ (∀ s, s < n → ∀ t, bt (ja s) t = (decide (t < n) && jarT tu pi s t)) ∧ ∀ h, h < 12 → ∀ t, bt (sn h) t = liveT n fr to h t
section Ear2
variable {n : Nat} {tu : Int32} {pi lo de fr to : Nat → Nat} {lou dep ja sn : Nat → Int32}
theorem ear_sum (E : EarOk n tu pi lo de fr to lou dep ja sn) {q : Int32} {p : Nat → Bool} (hq : ∀ t, t < 8 → bt q t = p t) (hp : ∀ t, p t = true → t < n) {s : Nat} (hs : s < n) :
    sumN (fun t => if bt (q &&& ja s) t = true then lou t else 0) 8 = zE (jarT tu pi) (iF lo) p s := by
  refine sumN_congr (fun t ht => ?_)
  rw [b_and, hq t ht, E.2.2.1 s hs t]
  cases e : p t with
  | false => rfl
  | true =>
    have htn := hp t e
    rw [decide_eq_true htn, Bool.true_and, E.1 t htn]
    rfl
theorem ear_wok (h8 : n ≤ 8) (E : EarOk n tu pi lo de fr to lou dep ja sn) {cr aw : Int32} (hcr : ∀ t, bt cr t = true → t < n) {h : Nat} (hh : h < 12) (s : Nat) :
    bt (aw ||| wokC lou dep ja sn cr aw h) s = stK (jarT tu pi) (iF lo) (iF de) (liveT n fr to) (bt cr) (bt aw) h s := by
  rw [b_or, wokC, bt_wokI, stK]
  by_cases hs : s < n
  · rw [decide_eq_true (by omega : s < 8), Bool.true_and, b_and, bt_not _ (by omega), Bool.and_assoc, E.2.1 s hs,
      ear_sum E (p := fun t => bt cr t && (!bt aw t && liveT n fr to h t)) (fun t ht => by rw [b_and, b_and, bt_not _ (by omega), E.2.2.2 h hh t, Bool.and_assoc]) (fun t ht => hcr t ((Bool.and_eq_true _ _).mp ht).1) hs]
    rfl
  · have e : bt cr s = false := by
      cases q : bt cr s with
      | false => rfl
      | true => exact absurd (hcr s q) hs
    rw [b_and, e, Bool.false_and, Bool.false_and, Bool.and_false, Bool.false_and]
theorem moK_congr {jar : Nat → Nat → Bool} {lo de : Nat → Int32} {live : Nat → Nat → Bool} {cr : Nat → Bool} (m : Nat) {a b : Nat → Bool} (h : Nat) (e : ∀ s, a s = b s) : moK jar lo de live cr m a h = moK jar lo de live cr m b h := by
  have q : a = b := funext e
  rw [q]
theorem ear_moC (h8 : n ≤ 8) (E : EarOk n tu pi lo de fr to lou dep ja sn) {cr : Int32} (hcr : ∀ t, bt cr t = true → t < n) : ∀ (m : Nat) (aw : Int32) (h : Nat), h + m = 12 → ∀ s, bt (moC lou dep ja sn cr m aw h) s = moK (jarT tu pi) (iF lo) (iF de) (liveT n fr to) (bt cr) m (bt aw) h s
  | 0, aw, h, _, s => rfl
  | m + 1, aw, h, hm, s => by
    rw [moC, ear_moC h8 E hcr m _ (h + 1) (by omega) s, moK]
    exact congrFun (moK_congr m (h + 1) (fun t => ear_wok h8 E hcr (by omega) t)) s
theorem Cr_dis {row crews : Nat → Int32} (hc : Cr n row crews) {k j s : Nat} (hk : k < 4) (hj : j < 4) (h1 : innM n row k s = true) (h2 : innM n row j s = true) : j = k := by
  have e1 := (of_decide_eq_true h1).2
  have e2 := (of_decide_eq_true h2).2
  exact i_inj (by omega) (by omega) (e2.symm.trans e1)
theorem Cr_lt {row crews : Nat → Int32} (hc : Cr n row crews) {k : Nat} (hk : k < 4) {t : Nat} (h : bt (crews k) t = true) : t < n := by
  rw [hc k hk t] at h
  exact (of_decide_eq_true h).1
theorem Cr_bt {row crews : Nat → Int32} (hc : Cr n row crews) {k : Nat} (hk : k < 4) : bt (crews k) = innM n row k := funext (fun t => hc k hk t)
theorem cl_morning {N : Nat} (hN : 70000 ≤ N) {of : Nat → Int32} (M : MOk n pi lo de fr to of) (E : EarOk n tu pi lo de fr to lou dep ja sn) {row crews : Nat → Int32} (hc : Cr n row crews) (aw : Int32) {h : Nat} (hh : h ≤ 12) :
    ∃ r : Int32, F_X0_morning N 4 lou dep ja sn crews aw (nI h) = some r ∧ ∀ s, bt r s = moG (jarT tu pi) (iF lo) (iF de) (liveT n fr to) (innM n row) (12 - h) (bt aw) h s := by
  refine ⟨_, v_X0_morning hN (fun k hk s hs q => ?_) hh, fun s => ?_⟩
  · have hsn := Cr_lt hc hk q
    have hM := M.2 s hsn
    rw [E.2.1 s hsn]
    exact i_le (a := 0) (Nat.zero_le _) (by omega)
  · rw [bt_orN, moG_eq (inn := innM n row) (fun k j s hk hj h1 h2 => Cr_dis hc hk hj h1 h2)]
    congr 1
    refine anyN_congr (fun k hk => ?_)
    rw [ear_moC M.1 E (fun t ht => Cr_lt hc hk ht) _ _ _ (by omega) s, Cr_bt hc hk]
theorem cl_afterHour {N : Nat} (hN : 70000 ≤ N) {of : Nat → Int32} (M : MOk n pi lo de fr to of) (E : EarOk n tu pi lo de fr to lou dep ja sn) {row crews : Nat → Int32} (hc : Cr n row crews) (aw : Int32) {h : Nat} (hh : h < 12) :
    ∃ r : Int32, F_X0_afterHour N 4 lou dep ja sn crews aw (nI h) = some r ∧ ∀ s, bt r s = stG (jarT tu pi) (iF lo) (iF de) (liveT n fr to) (innM n row) (bt aw) h s := by
  refine ⟨_, v_X0_afterHour hN hh, fun s => ?_⟩
  have e1 := fun k hk => ear_wok M.1 E (cr := crews k) (aw := aw) (fun t ht => Cr_lt hc hk ht) hh s
  rw [bt_orN, stG]
  cases ea : bt aw s with
  | true => rfl
  | false =>
    rw [Bool.false_or, Bool.false_or]
    refine anyN_congr (fun k hk => ?_)
    have e2 := e1 k hk
    rw [b_or, ea, Bool.false_or, stK, ea, Bool.false_or, Cr_bt hc hk] at e2
    rw [e2]
/-- a loop that answers at the first place -/
theorem lq1_first {ω : Type} {body : (Int32 → Option ω) → Int32 → Option ω} (cond : Nat → Bool) (e : Nat) (yes : Nat → Option ω) (no : Option ω) (hs : ∀ self i, i < e → body self (nI i) = if cond i = true then yes i else self (nI (i + 1))) (hx : ∀ self, body self (nI e) = no) : ∀ N, e < N → (∃ i, i < e ∧ cond i = true ∧ (∀ j, j < i → cond j = false) ∧ lq1 body N (nI 0) = yes i) ∨ ((∀ j, j < e → cond j = false) ∧ lq1 body N (nI 0) = no) := by
  have key : ∀ m f i, i + m = e → m < f → (∀ j, j < i → cond j = false) → (∃ i, i < e ∧ cond i = true ∧ (∀ j, j < i → cond j = false) ∧ lq1 body f (nI i) = lq1 body f (nI i) ∧ lq1 body f (nI (e - m)) = yes i) ∨ ((∀ j, j < e → cond j = false) ∧ lq1 body f (nI (e - m)) = no) := by
    intro m
    induction m with
    | zero =>
      intro f i hi hf hj
      obtain ⟨g, rfl⟩ : ∃ g, f = g + 1 := ⟨f - 1, by omega⟩
      have e1 : i = e := by omega
      subst e1
      exact Or.inr ⟨hj, hx _⟩
    | succ m ih =>
      intro f i hi hf hj
      obtain ⟨g, rfl⟩ : ∃ g, f = g + 1 := ⟨f - 1, by omega⟩
      have e1 : e - (m + 1) = i := by omega
      have e2 : e - m = i + 1 := by omega
      rw [e1]
      have st : lq1 body (g + 1) (nI i) = if cond i = true then yes i else lq1 body g (nI (i + 1)) := hs _ i (by omega)
      by_cases q : cond i = true
      · exact Or.inl ⟨i, by omega, q, hj, rfl, by rw [st, if_pos q]⟩
      · have q2 : cond i = false := by simpa using q
        rw [st, if_neg q]
        rcases ih g (i + 1) (by omega) (by omega) (fun j hj2 => by
          by_cases z : j = i
          · rw [z]; exact q2
          · exact hj j (by omega)) with ⟨k, h1, h2, h3, _, h4⟩ | ⟨h1, h2⟩
        · rw [e2] at h4
          exact Or.inl ⟨k, h1, h2, h3, rfl, h4⟩
        · rw [e2] at h2
          exact Or.inr ⟨h1, h2⟩
  intro N hN
  rcases key e N 0 (by omega) hN (fun j hj => absurd hj (by omega)) with ⟨k, h1, h2, h3, _, h4⟩ | ⟨h1, h2⟩
  · rw [Nat.sub_self] at h4
    exact Or.inl ⟨k, h1, h2, h3, h4⟩
  · rw [Nat.sub_self] at h2
    exact Or.inr ⟨h1, h2⟩
theorem v_X0_isOutOfTune {N : Nat} (hN : 70000 ≤ N) (h8 : n ≤ 8) (E : EarOk n tu pi lo de fr to lou dep ja sn) (q : Int32) : F_X0_isOutOfTune N (nI n) ja q = some (b2i (outT n (jarT tu pi) (bt q))) := by
  unfold F_X0_isOutOfTune
  have hz : ∀ s, s < n → ((q &&& ja s = 0) ↔ anyN (fun t => bt q t && jarT tu pi s t) n = false) := fun s hs => by
    constructor
    · intro e
      refine anyN_no (fun t ht => ?_)
      have e2 : bt (q &&& ja s) t = bt 0 t := by rw [e]
      rw [b_and, E.2.2.1 s hs t, decide_eq_true ht, Bool.true_and, b_0] at e2
      exact e2
    · intro e
      refine b_ext (fun t _ => ?_)
      rw [b_and, E.2.2.1 s hs t, b_0]
      by_cases ht : t < n
      · rw [decide_eq_true ht, Bool.true_and]
        cases w : (bt q t && jarT tu pi s t) with
        | false => rfl
        | true =>
          rw [anyN_iff.mpr ⟨t, ht, w⟩] at e
          cases e
      · rw [decide_eq_false ht, Bool.false_and, Bool.and_false]
  rcases lq1_first (body := fun self => B_X0_isOutOfTune_2 N (nI n) ja q self) (fun s => bt q s && anyN (fun t => bt q t && jarT tu pi s t) n) n (fun _ => some 1) (some 0) (fun self i hi => by
    show B_X0_isOutOfTune_2 N (nI n) ja q self (nI i) = _
    unfold B_X0_isOutOfTune_2
    rw [if_neg (i_nle hi (by omega))]
    cases b : bt q i with
    | false =>
      rw [if_neg (fun e => by rw [(bt_one (by omega)).mp e] at b; cases b), nm_def, i_s, if_neg (by rw [Bool.false_and]; decide)]
    | true =>
      rw [if_pos ((bt_one (by omega)).mpr b), bnd_of (atI_in (by omega) (by omega)), Bool.true_and]
      cases w : anyN (fun t => bt q t && jarT tu pi i t) n with
      | false => rw [if_pos ((hz i hi).mpr w), nm_def, i_s, if_neg (by decide)]
      | true => rw [if_neg (fun e => by rw [(hz i hi).mp e] at w; cases w), if_pos rfl]) (fun self => by
    show B_X0_isOutOfTune_2 N (nI n) ja q self (nI n) = _
    unfold B_X0_isOutOfTune_2
    rw [if_pos (i_le (Nat.le_refl _) (by omega))]) N (by omega) with ⟨i, h1, h2, _, h4⟩ | ⟨h1, h2⟩
  · rw [show outT n (jarT tu pi) (bt q) = true from anyN_iff.mpr ⟨i, h1, h2⟩]
    exact h4
  · rw [show outT n (jarT tu pi) (bt q) = false from anyN_no h1]
    exact h2
/-! listen and tune -/
def bitI (s : Nat) : Int32 := (1 : Int32) <<< (nI s &&& 31)
def inI (g : Nat → Int32) (s a m : Nat) : Nat → Int32 := fun h => if a ≤ h ∧ h < a + m then g h ||| bitI s else g h
theorem inI_s (g : Nat → Int32) (s a m : Nat) : upd (inI g s a m) (a + m) (inI g s a m (a + m) ||| bitI s) = inI g s a (m + 1) := by
  funext j
  by_cases e : j = a + m
  · subst e
    rw [pk_us, inI, inI, if_neg (by omega), if_pos (by omega)]
  · rw [pk_un e, inI, inI]
    by_cases q : a ≤ j ∧ j < a + m
    · rw [if_pos q, if_pos (by omega)]
    · rw [if_neg q, if_neg (by omega)]
def snF (fr to : Nat → Nat) (g : Nat → Int32) : Nat → Nat → Int32
  | 0 => g
  | i + 1 => inI (snF fr to g i) i (fr i) (to i - fr i)
theorem bt_snF {fr to : Nat → Nat} {g : Nat → Int32} {h : Nat} (hg : g h = 0) : ∀ (i : Nat), i ≤ 32 → ∀ t, bt (snF fr to g i h) t = liveT i fr to h t
  | 0, _, t => by rw [snF, hg, b_0, liveT, decide_eq_false (fun e => absurd e.1 (by omega))]
  | i + 1, hi, t => by
    have ih := bt_snF (fr := fr) (to := to) hg i (by omega) t
    rw [snF, inI]
    by_cases q : fr i ≤ h ∧ h < fr i + (to i - fr i)
    · rw [if_pos q, b_or, ih, bitI, bt_bit (by omega), liveT, liveT]
      by_cases e : t = i
      · subst e
        rw [decide_eq_true rfl, Bool.or_true, decide_eq_true ⟨by omega, by omega⟩]
      · rw [decide_eq_false e, Bool.or_false]
        by_cases z : t < i ∧ fr t ≤ h ∧ h < to t
        · rw [decide_eq_true z, decide_eq_true ⟨by omega, z.2⟩]
        · rw [decide_eq_false z, decide_eq_false (fun w => z ⟨by omega, w.2⟩)]
    · rw [if_neg q, ih, liveT, liveT]
      by_cases e : t = i
      · subst e
        rw [decide_eq_false (fun w => absurd w.1 (by omega)), decide_eq_false (fun w => q ⟨w.2.1, by omega⟩)]
      · by_cases z : t < i ∧ fr t ≤ h ∧ h < to t
        · rw [decide_eq_true z, decide_eq_true ⟨by omega, z.2⟩]
        · rw [decide_eq_false z, decide_eq_false (fun w => z ⟨by omega, w.2⟩)]
/-- the class's train: what its rows hold -/
def TrOk (n : Nat) (pi lo de fr to : Nat → Nat) (tp tl td tf tt : Nat → Int32) : Prop := ∀ s, s < n → tp s = nI (pi s) ∧ tl s = nI (lo s) ∧ td s = nI (de s) ∧ tf s = nI (fr s) ∧ tt s = nI (to s)
theorem v_X0_listen {N : Nat} (hN : 70000 ≤ N) {of : Nat → Int32} (M : MOk n pi lo de fr to of) {tp tl td tf tt : Nat → Int32} (T : TrOk n pi lo de fr to tp tl td tf tt) (s0 : Int32) (ep el ed es : Nat → Int32) :
    F_X0_listen N s0 ep el ed es (nI n) tp tl td tf tt = some (nI n, va_cpy tp ep 0 0 n, va_cpy tl el 0 0 n, va_cpy td ed 0 0 n, snF fr to (va_cpy (fun _ => 0) es 0 0 12) n) := by
  have h8 := M.1
  unfold F_X0_listen
  rw [bnd_of (v_J7_fill (by omega) (by omega) es 0)]
  have h := lq6_run (body := fun self => B_X0_listen_18 N (nI n) tp tl td tf tt self) (fun _ => nI n) (fun i => va_cpy tp ep 0 0 i) (fun i => va_cpy tl el 0 0 i) (fun i => va_cpy td ed 0 0 i) (fun i => snF fr to (va_cpy (fun _ => 0) es 0 0 12) i) (fun i => nI i) n (some (nI n, va_cpy tp ep 0 0 n, va_cpy tl el 0 0 n, va_cpy td ed 0 0 n, snF fr to (va_cpy (fun _ => 0) es 0 0 12) n)) (fun self i hi => by
    show B_X0_listen_18 N (nI n) tp tl td tf tt self _ _ _ _ _ _ = _
    unfold B_X0_listen_18
    have hM := M.2 i hi
    have hT := T i hi
    have q12 : ¬ (12 : Int32) < nI (to i) := i_nlt (a := 12) (by omega) (by omega)
    rw [if_neg (i_nle hi (by omega)), bnd_of (atI_in (by omega) (by omega)), bnd_of (layI_in (by omega) (by omega)), bnd_of (atI_in (by omega) (by omega)), bnd_of (layI_in (by omega) (by omega)), bnd_of (atI_in (by omega) (by omega)), bnd_of (layI_in (by omega) (by omega)), bnd_of (atI_in (by omega) (by omega)), cpy_s0, cpy_s0, cpy_s0, hT.2.2.2.2, if_neg q12, nm_def, bnd_of (atI_in (by omega) (by omega)), hT.2.2.2.1, snF]
    generalize snF fr to (va_cpy (fun _ => 0) es 0 0 12) i = g
    have h2 := lq8_run (body := fun self2 => B_X0_listen_98 N (nI n) tp tl td tf tt self self2) (fun _ => nI n) (fun _ => va_cpy tp ep 0 0 (i + 1)) (fun _ => va_cpy tl el 0 0 (i + 1)) (fun _ => va_cpy td ed 0 0 (i + 1)) (fun j => inI g i (fr i) j) (fun _ => nI i) (fun _ => nI (to i)) (fun j => nI (fr i + j)) (to i - fr i) (self (nI n) (va_cpy tp ep 0 0 (i + 1)) (va_cpy tl el 0 0 (i + 1)) (va_cpy td ed 0 0 (i + 1)) (inI g i (fr i) (to i - fr i)) (nI (i + 1))) (fun self2 j hj => by
      show B_X0_listen_98 N (nI n) tp tl td tf tt self self2 _ _ _ _ _ _ _ _ = _
      unfold B_X0_listen_98
      rw [if_neg (i_nle (by omega) (by omega)), bnd_of (atI_in (by omega) (by omega)), bnd_of (layI_in (by omega) (by omega)), nm_def, i_s]
      rw [show inI g i (fr i) (j + 1) = _ from (inI_s g i (fr i) j).symm]
      rfl) (fun self2 => by
      show B_X0_listen_98 N (nI n) tp tl td tf tt self self2 _ _ _ _ _ _ _ _ = _
      unfold B_X0_listen_98
      rw [if_pos (i_le (by omega) (by omega)), nm_def, i_s]) N (by omega)
    have e0 : inI g i (fr i) 0 = g := funext (fun x => if_neg (by omega))
    rw [e0, Nat.add_zero] at h2
    exact h2) (fun self => by
    show B_X0_listen_18 N (nI n) tp tl td tf tt self _ _ _ _ _ _ = _
    unfold B_X0_listen_18
    rw [if_pos (i_le (Nat.le_refl _) (by omega))]) N (by omega)
  rw [cpy_0, cpy_0, cpy_0] at h
  exact h
def jaF (n : Nat) (tu : Int32) (pi : Nat → Nat) : Nat → Int32 := fun s => setN (fun t => jarT tu pi s t) n
theorem v_X0_tune {N : Nat} (hN : 70000 ≤ N) (h8 : n ≤ 8) (hp : ∀ s, s < n → pi s < 12) {ep : Nat → Int32} (he : ∀ s, s < n → ep s = nI (pi s)) (ja0 : Nat → Int32) : F_X0_tune N (nI n) ep ja0 tu = some (va_cpy (jaF n tu pi) ja0 0 0 n) := by
  unfold F_X0_tune
  have h := lq2_run (body := fun self => B_X0_tune_2 N (nI n) ep tu self) (fun i => va_cpy (jaF n tu pi) ja0 0 0 i) (fun i => nI i) n (some (va_cpy (jaF n tu pi) ja0 0 0 n)) (fun self s hs => by
    show B_X0_tune_2 N (nI n) ep tu self _ _ = _
    unfold B_X0_tune_2
    rw [if_neg (i_nle hs (by omega))]
    refine lq4_run (fun _ => va_cpy (jaF n tu pi) ja0 0 0 s) (fun _ => nI s) (fun i => setN (fun t => jarT tu pi s t) i) (fun i => nI i) n _ (fun self2 t ht => ?_) (fun self2 => ?_) N (by omega)
    · unfold B_X0_tune_15
      rw [if_neg (i_nle ht (by omega)), bnd_of (atI_in (by omega) (by omega)), bnd_of (atI_in (by omega) (by omega)), he s hs, he t ht, bnd_of (v_X8_apart _ (hp s hs) _ (hp t ht)), setN, jarT]
      have hl := apN_lt _ (hp s hs) _ (hp t ht)
      unfold B_X0_tune_57
      by_cases e : t = s
      · subst e
        have z : ¬ (decide (t ≠ t) && !bt tu (apN (pi t) (pi t))) = true := by simp
        by_cases q : bt tu (apN (pi t) (pi t)) = true
        · rw [if_pos ((bt_one (by omega)).mpr q), if_pos rfl, nm_def, i_s, if_neg z]
        · rw [if_neg (fun w => q ((bt_one (by omega)).mp w)), if_pos rfl, nm_def, i_s, if_neg z]
      · rw [if_neg (i_ne (by omega) (by omega) e), if_neg (i_ne (by omega) (by omega) e), decide_eq_true e, Bool.true_and]
        by_cases q : bt tu (apN (pi s) (pi t)) = true
        · rw [if_pos ((bt_one (by omega)).mpr q), if_neg (by decide), nm_def, i_s, if_neg (by rw [q]; decide)]
        · have q2 : bt tu (apN (pi s) (pi t)) = false := by simpa using q
          rw [if_neg (fun w => q ((bt_one (by omega)).mp w)), if_pos rfl, nm_def, nm_def, i_s, if_pos (by rw [q2]; rfl)]
    · unfold B_X0_tune_15
      rw [if_pos (i_le (Nat.le_refl _) (by omega)), bnd_of (layI_in (by omega) (by omega)), nm_def, i_s, ← cpy_s0]
      rfl) (fun self => by
    show B_X0_tune_2 N (nI n) ep tu self _ _ = _
    unfold B_X0_tune_2
    rw [if_pos (i_le (Nat.le_refl _) (by omega))]) N (by omega)
  rw [cpy_0] at h
  exact h
theorem ear_made (h8 : n ≤ 8) {tl td el ed es ja0 : Nat → Int32} (hl : ∀ s, s < n → tl s = nI (lo s)) (hd : ∀ s, s < n → td s = nI (de s)) : EarOk n tu pi lo de fr to (va_cpy tl el 0 0 n) (va_cpy td ed 0 0 n) (va_cpy (jaF n tu pi) ja0 0 0 n) (snF fr to (va_cpy (fun _ => 0) es 0 0 12) n) :=
  ⟨fun s hs => by rw [cpy_in0 hs]; exact hl s hs, fun s hs => by rw [cpy_in0 hs]; exact hd s hs, fun s hs t => by rw [cpy_in0 hs, jaF, bt_setN _ (by omega)], fun h hh t => bt_snF (by rw [cpy_in0 hh]) n (by omega) t⟩
end Ear2

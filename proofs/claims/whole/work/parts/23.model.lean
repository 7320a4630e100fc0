theorem nm_def {α β : Type} (e : α) (k : α → Option β) : nm e k = k e := rfl
theorem sumN_cut {g : Nat → Int32} {n m : Nat} (h : n ≤ m) (hz : ∀ i, n ≤ i → i < m → g i = 0) : sumN g m = sumN g n := by
  obtain ⟨d, rfl⟩ : ∃ d, m = n + d := ⟨m - n, by omega⟩
  exact sumN_more d hz
def apN (p q : Nat) : Nat := let d := if p ≤ q then q - p else p - q; if d ≤ 6 then d else 12 - d
theorem apN_lt : ∀ p, p < 12 → ∀ q, q < 12 → apN p q < 7 := by decide +kernel
theorem apN_comm : ∀ p, p < 12 → ∀ q, q < 12 → apN p q = apN q p := by decide +kernel
theorem v_X9_apart : ∀ p, p < 12 → ∀ q, q < 12 → F_X9_apart (nI p) (nI q) = some (nI (apN p q)) := by decide +kernel
theorem v_X8_apart : ∀ p, p < 12 → ∀ q, q < 12 → F_X8_apart (nI p) (nI q) = some (nI (apN p q)) := by decide +kernel
theorem v_X9_has {x : Int32} {s : Nat} (hs : s < 32) : F_X9_has x (nI s) = some (if bt x s = true then 1 else 0) := by
  unfold F_X9_has
  by_cases q : bt x s = true
  · rw [if_pos ((bt_one hs).mpr q), if_pos q]
  · rw [if_neg (fun e => q ((bt_one hs).mp e)), if_neg q]
theorem v_X9_in_n {x a b : Nat} (hx : x < 1073741824) (ha : a < 1073741824) (hb : b < 1073741824) : F_X9_in (nI x) (nI a) (nI b) = some (if a ≤ x ∧ x ≤ b then 1 else 0) := by
  unfold F_X9_in
  by_cases h1 : x < a
  · rw [if_pos (i_lt h1 (by omega)), if_neg (by omega)]
  · rw [if_neg (i_nlt (by omega) (by omega))]
    by_cases h2 : b < x
    · rw [if_pos (i_lt h2 (by omega)), if_neg (by omega)]
    · rw [if_neg (i_nlt (by omega) (by omega)), if_pos (by omega)]
theorem i_sub1 {z h : Nat} (hz : z < 1073741824) (hh : h < 1073741824) : (nI z - 1 < nI h) ↔ z ≤ h := by
  rw [Int32.lt_iff_toInt_lt, nI_toInt (by omega), show (nI z - 1 : Int32) = nI z - nI 1 from rfl, pk_sub_toInt (by omega) (by omega)]
  omega
theorem v_X9_in_m {x a b : Nat} (hx : x < 1073741824) (ha : a < 1073741824) (hb : b < 1073741824) : F_X9_in (nI x) (nI a) (nI b - 1) = some (if a ≤ x ∧ x < b then 1 else 0) := by
  unfold F_X9_in
  by_cases h1 : x < a
  · rw [if_pos (i_lt h1 (by omega)), if_neg (by omega)]
  · rw [if_neg (i_nlt (by omega) (by omega))]
    by_cases h2 : b ≤ x
    · rw [if_pos ((i_sub1 hb hx).mpr h2), if_neg (by omega)]
    · rw [if_neg (fun e => h2 ((i_sub1 hb hx).mp e)), if_pos (by omega)]
theorem i_of5 {s c : Nat} : (5 : Int32) * nI s + nI c = nI (5 * s + c) := by
  rw [show (5 : Int32) = nI 5 from rfl, pk_mul, nI_add]
theorem i_of50 {s : Nat} : (5 : Int32) * nI s = nI (5 * s) := by
  rw [show (5 : Int32) = nI 5 from rfl, pk_mul]
/-- of holds the n sleepers' numbers -/
def MOk (n : Nat) (pi lo de fr to : Nat → Nat) (of : Nat → Int32) : Prop := n ≤ 8 ∧ ∀ s, s < n → of (5 * s) = nI (pi s) ∧ of (5 * s + 1) = nI (lo s) ∧ of (5 * s + 2) = nI (de s) ∧ of (5 * s + 3) = nI (fr s) ∧ of (5 * s + 4) = nI (to s) ∧ pi s < 12 ∧ lo s ≤ 9 ∧ de s ≤ 40 ∧ fr s ≤ to s ∧ to s ≤ 12
def jarT (tu : Int32) (pi : Nat → Nat) (s t : Nat) : Bool := decide (t ≠ s) && !bt tu (apN (pi s) (pi t))
def liveT (n : Nat) (fr to : Nat → Nat) (h t : Nat) : Bool := decide (t < n ∧ fr t ≤ h ∧ h < to t)
def iF (f : Nat → Nat) : Nat → Int32 := fun s => nI (f s)
def innM (n : Nat) (c : Nat → Int32) (k s : Nat) : Bool := decide (s < n ∧ c s = nI k)
def CaOk (n : Nat) (c : Nat → Int32) : Prop := ∀ s, s < n → c s = -1 ∨ ∃ k, k < 4 ∧ c s = nI k
section Model
variable {n : Nat} {pi lo de fr to : Nat → Nat} {of : Nat → Int32}
theorem v_X9_pitchOf (M : MOk n pi lo de fr to of) {s : Nat} (hs : s < n) : F_X9_pitchOf of (nI s) = some (nI (pi s)) := by
  have h8 := M.1
  unfold F_X9_pitchOf
  rw [i_of50, rd_nI (by omega) (by omega), (M.2 s hs).1]
theorem v_X9_snores (M : MOk n pi lo de fr to of) {m : Nat} (hm : 10 ≤ m ∧ m < 2147483648) {c : Nat → Int32} {s : Nat} (hs : s < n) {h : Nat} (hh : h ≤ 12) :
    F_X9_snores m of c (nI s) (nI h) = some (if c s ≠ -1 ∧ bt (c 8) s = false ∧ liveT n fr to h s = true then 1 else 0) := by
  have h8 := M.1
  have hM := M.2 s hs
  unfold F_X9_snores
  rw [rd_nI (by omega) (by omega)]
  by_cases h1 : c s = -1
  · rw [if_pos h1, if_neg (fun e => e.1 h1)]
  · rw [if_neg h1, show (8 : Int32) = nI 8 from rfl, rd_nI (by omega) (by omega), bnd_of (v_X9_has (by omega))]
    by_cases h2 : bt (c 8) s = true
    · rw [if_pos h2, if_neg (by decide), if_neg (fun e => by rw [e.2.1] at h2; cases h2)]
    · have h2' : bt (c 8) s = false := by simpa using h2
      rw [if_neg h2, if_pos rfl, show (3 : Int32) = nI 3 from rfl, show (4 : Int32) = nI 4 from rfl, i_of5, i_of5, rd_nI (by omega) (by omega), rd_nI (by omega) (by omega), hM.2.2.2.1, hM.2.2.2.2.1, bnd_of (v_X9_in_m (by omega) (by omega) (by omega))]
      by_cases h3 : fr s ≤ h ∧ h < to s
      · rw [if_pos h3, if_neg (by decide), if_pos ⟨h1, h2', decide_eq_true ⟨hs, h3⟩⟩]
      · rw [if_neg h3, if_pos rfl, if_neg (fun e => h3 (of_decide_eq_true e.2.2).2)]
theorem v_X9_noiseFor {N : Nat} (hN : 70000 ≤ N) (M : MOk n pi lo de fr to of) {tu : Int32} {m : Nat} (hm : 10 ≤ m ∧ m < 2147483648) {c : Nat → Int32} {s : Nat} (hs : s < n) {k : Nat} (hk : k < 4) (hc : c s = nI k) (ha : bt (c 8) s = false) {h : Nat} (hh : h < 12) :
    F_X9_noiseFor N m (nI n) tu of c (nI s) (nI h) = some (zE (jarT tu pi) (iF lo) (fun t => innM n c k t && (!bt (c 8) t && liveT n fr to h t)) s) := by
  have h8 := M.1
  unfold F_X9_noiseFor
  rw [rd_nI (by omega) (by omega), if_neg (by rw [hc]; exact i_m1 (by omega)), show (8 : Int32) = nI 8 from rfl, rd_nI (by omega) (by omega), bnd_of (v_X9_has (by omega)), show (if bt (c 8) s = true then (1 : Int32) else 0) = 0 by rw [ha]; rfl, if_pos rfl, if_pos (lt12 hh)]
  rw [zE, sumN_cut h8 (fun i h1 h2 => by rw [innM, decide_eq_false (by omega)]; rfl)]
  refine lq2_run (fun i => sumN (fun t => if ((innM n c k t && (!bt (c 8) t && liveT n fr to h t)) && jarT tu pi s t) = true then iF lo t else 0) i) (fun i => nI i) n _ (fun self i hi => ?_) (fun self => ?_) N (by omega)
  · have hM := M.2 i hi
    have fin1 : B_X9_noiseFor_97 N m (nI n) tu of c (nI s) (nI h) self (sumN (fun t => if ((innM n c k t && (!bt (c 8) t && liveT n fr to h t)) && jarT tu pi s t) = true then iF lo t else 0) i) (nI i) 1 = self (sumN (fun t => if ((innM n c k t && (!bt (c 8) t && liveT n fr to h t)) && jarT tu pi s t) = true then iF lo t else 0) i + iF lo i) (nI (i + 1)) := by
      unfold B_X9_noiseFor_97
      rw [if_neg (by decide), show (1 : Int32) = nI 1 from rfl, i_of5, rd_nI (by omega) (by omega), hM.2.1]
      show self _ (nI i + 1) = _
      rw [i_s]
      rfl
    have fin0 : B_X9_noiseFor_97 N m (nI n) tu of c (nI s) (nI h) self (sumN (fun t => if ((innM n c k t && (!bt (c 8) t && liveT n fr to h t)) && jarT tu pi s t) = true then iF lo t else 0) i) (nI i) 0 = self (sumN (fun t => if ((innM n c k t && (!bt (c 8) t && liveT n fr to h t)) && jarT tu pi s t) = true then iF lo t else 0) i) (nI (i + 1)) := by
      unfold B_X9_noiseFor_97
      rw [if_pos rfl]
      show self (_ + 0) (nI i + 1) = _
      rw [i_s, x_add0]
    unfold B_X9_noiseFor_32
    rw [if_neg (i_nle hi (by omega)), rd_nI (by omega) (by omega), rd_nI (by omega) (by omega), hc, sumN]
    by_cases h1 : c i = nI k
    · rw [if_pos h1]
      by_cases h2 : i = s
      · subst h2
        rw [if_pos rfl, fin0, if_neg (by rw [jarT]; simp), x_add0]
      · rw [if_neg (i_ne (by omega) (by omega) h2), bnd_of (v_X9_snores M hm hi (by omega))]
        by_cases h3 : c i ≠ -1 ∧ bt (c 8) i = false ∧ liveT n fr to h i = true
        · rw [if_pos h3, if_neg (by decide), bnd_of (v_X9_pitchOf M hs), bnd_of (v_X9_pitchOf M hi), bnd_of (v_X9_apart _ (M.2 s hs).2.2.2.2.2.1 _ hM.2.2.2.2.2.1), bnd_of (v_X9_has (by have := apN_lt _ (M.2 s hs).2.2.2.2.2.1 _ hM.2.2.2.2.2.1; omega))]
          by_cases h4 : bt tu (apN (pi s) (pi i)) = true
          · rw [if_pos h4, if_neg (by decide), fin0, if_neg (by rw [jarT, h4]; simp), x_add0]
          · have h4' : bt tu (apN (pi s) (pi i)) = false := by simpa using h4
            rw [if_neg h4, if_pos rfl, fin1, if_pos (by rw [jarT, h4', innM, decide_eq_true ⟨hi, h1⟩, h3.2.1, h3.2.2, decide_eq_true h2]; rfl)]
        · rw [if_neg h3, if_pos rfl, fin0, if_neg (fun e => h3 ?_), x_add0]
          have e1 := (Bool.and_eq_true _ _).mp e
          have e2 := (Bool.and_eq_true _ _).mp e1.1
          have e3 := (Bool.and_eq_true _ _).mp e2.2
          exact ⟨by rw [h1]; exact i_m1 (by omega), by simpa using e3.1, e3.2⟩
    · rw [if_neg h1, fin0, if_neg (by rw [innM, decide_eq_false (fun e => h1 e.2)]; simp), x_add0]
  · unfold B_X9_noiseFor_32
    rw [if_pos (i_le (Nat.le_refl _) (by omega))]
theorem v_X9_noiseFor0 {N : Nat} (M : MOk n pi lo de fr to of) {tu : Int32} {m : Nat} (hm : 10 ≤ m ∧ m < 2147483648) {c : Nat → Int32} {s : Nat} (hs : s < n) {h : Nat} (hh : h ≤ 12) (hz : c s = -1 ∨ bt (c 8) s = true ∨ h = 12) :
    F_X9_noiseFor N m (nI n) tu of c (nI s) (nI h) = some 0 := by
  have h8 := M.1
  unfold F_X9_noiseFor
  rw [rd_nI (by omega) (by omega)]
  by_cases h1 : c s = -1
  · rw [if_pos h1]
  · rw [if_neg h1, show (8 : Int32) = nI 8 from rfl, rd_nI (by omega) (by omega), bnd_of (v_X9_has (by omega))]
    by_cases h2 : bt (c 8) s = true
    · rw [if_pos h2, if_neg (by decide)]
    · rw [if_neg h2, if_pos rfl]
      rcases hz with q | q | q
      · exact absurd q h1
      · exact absurd q h2
      · subst q
        rw [if_neg (nlt12 (Nat.le_refl _) (by omega))]
theorem v_X9_pass {N : Nat} (hN : 70000 ≤ N) (M : MOk n pi lo de fr to of) {tu : Int32} {m : Nat} (hm : 10 ≤ m ∧ m < 2147483648) {c : Nat → Int32} (hc : CaOk n c) {h : Nat} (hh : h < 12) (h9 : c 9 = nI h) :
    ∃ w : Int32, F_X9_pass N m (nI n) tu of c = some (upd (upd c 8 (c 8 ||| w)) 9 (nI (h + 1))) ∧ ∀ s, (bt (c 8) s || bt w s) = stG (jarT tu pi) (iF lo) (iF de) (liveT n fr to) (innM n c) (bt (c 8)) h s := by
  have h8 := M.1
  refine ⟨setN (fun s => anyN (fun k => innM n c k s && (!bt (c 8) s && !decide (zE (jarT tu pi) (iF lo) (fun t => innM n c k t && (!bt (c 8) t && liveT n fr to h t)) s ≤ iF de s))) 4) n, ?_, fun s => ?_⟩
  · unfold F_X9_pass
    refine lq3_run (fun _ => c) (fun i => setN (fun s => anyN (fun k => innM n c k s && (!bt (c 8) s && !decide (zE (jarT tu pi) (iF lo) (fun t => innM n c k t && (!bt (c 8) t && liveT n fr to h t)) s ≤ iF de s))) 4) i) (fun i => nI i) n _ (fun self i hi => ?_) (fun self => ?_) N (by omega)
    · have hM := M.2 i hi
      unfold B_X9_pass_4
      rw [if_neg (i_nle hi (by omega)), show (9 : Int32) = nI 9 from rfl, rd_nI (by omega) (by omega), h9, show (2 : Int32) = nI 2 from rfl, i_of5, setN]
      by_cases z : c i = -1 ∨ bt (c 8) i = true
      · rw [bnd_of (v_X9_noiseFor0 M hm hi (by omega) (by rcases z with z | z; exact Or.inl z; exact Or.inr (Or.inl z))), rd_nI (by omega) (by omega), hM.2.2.1, if_pos (ge0 (i := de i) (Nat.zero_le _) (by omega)), if_neg ?_]
        · show self _ (_ ||| 0) (nI i + 1) = _
          rw [i_s, x_or0]
        · rw [anyN_no (fun k hk => ?_)]
          · decide
          · rcases z with z | z
            · rw [innM, decide_eq_false (fun e => i_m1' (by omega) (z.symm.trans e.2)), Bool.false_and]
            · rw [z]; simp
      · obtain ⟨k, hk, hck⟩ : ∃ k, k < 4 ∧ c i = nI k := by
          rcases hc i hi with q | q
          · exact absurd (Or.inl q) z
          · exact q
        have ha : bt (c 8) i = false := by
          cases e : bt (c 8) i with
          | false => rfl
          | true => exact absurd (Or.inr e) z
        rw [bnd_of (v_X9_noiseFor hN M hm hi hk hck ha hh), rd_nI (by omega) (by omega), show of (5 * i + 2) = iF de i from hM.2.2.1, anyN_one hk (fun j hj q => by rw [innM, decide_eq_false (fun e => q (i_inj (by omega) (by omega) (e.2.symm.trans hck))), Bool.false_and]), show innM n c k i = true from decide_eq_true ⟨hi, hck⟩, ha, Bool.true_and]
        by_cases w : zE (jarT tu pi) (iF lo) (fun t => innM n c k t && (!bt (c 8) t && liveT n fr to h t)) i ≤ iF de i
        · rw [if_pos w, if_neg (by rw [decide_eq_true w]; decide)]
          show self _ (_ ||| 0) (nI i + 1) = _
          rw [i_s, x_or0]
        · rw [if_neg w, if_pos (by rw [decide_eq_false w]; decide)]
          show self _ _ (nI i + 1) = _
          rw [i_s]
    · unfold B_X9_pass_4
      rw [if_pos (i_le (Nat.le_refl _) (by omega)), show (8 : Int32) = nI 8 from rfl, show (9 : Int32) = nI 9 from rfl, rd_nI (by omega) (by omega)]
      rw [nm_def, wr_nI (by omega) (by omega), rd_nI (by omega) (by omega), pk_un (by decide), h9, nm_def, i_s, wr_nI (by omega) (by omega)]
  · rw [bt_setN _ (by omega), stG]
    by_cases hs : s < n
    · rw [decide_eq_true hs, Bool.true_and]
    · rw [decide_eq_false hs, Bool.false_and, anyN_no (fun k hk => by rw [innM, decide_eq_false (fun e => hs e.1), Bool.false_and])]
theorem stG_congr {jar : Nat → Nat → Bool} {lo de : Nat → Int32} {live inn inn' : Nat → Nat → Bool} (h : ∀ k s, inn k s = inn' k s) : stG jar lo de live inn = stG jar lo de live inn' := by
  have e : inn = inn' := funext fun k => funext fun s => h k s
  rw [e]
theorem moG_congr {jar : Nat → Nat → Bool} {lo de : Nat → Int32} {live inn : Nat → Nat → Bool} (m : Nat) {a b : Nat → Bool} (h : Nat) (e : ∀ s, a s = b s) : moG jar lo de live inn m a h = moG jar lo de live inn m b h := by
  have q : a = b := funext e
  rw [q]
theorem v_X9_sleepOn {N : Nat} (hN : 70000 ≤ N) (M : MOk n pi lo de fr to of) {tu : Int32} {m : Nat} (hm : 10 ≤ m ∧ m < 2147483648) {c : Nat → Int32} (hc : CaOk n c) {h : Nat} (hh : h ≤ 12) (h9 : c 9 = nI h) :
    ∃ c' : Nat → Int32, F_X9_sleepOn N m (nI n) tu of c = some c' ∧ (∀ s, s < 8 → c' s = c s) ∧ c' 9 = nI 12 ∧ ∀ s, bt (c' 8) s = moG (jarT tu pi) (iF lo) (iF de) (liveT n fr to) (innM n c) (12 - h) (bt (c 8)) h s := by
  have h8 := M.1
  unfold F_X9_sleepOn
  have key : ∀ (q f i : Nat) (d : Nat → Int32), i + q = 12 → q < f → (∀ s, s < 8 → d s = c s) → d 9 = nI i → ∃ c' : Nat → Int32, F_X9_sleepOn_0 N m (nI n) tu of f d = some c' ∧ (∀ s, s < 8 → c' s = c s) ∧ c' 9 = nI 12 ∧ ∀ s, bt (c' 8) s = moG (jarT tu pi) (iF lo) (iF de) (liveT n fr to) (innM n c) q (bt (d 8)) i s := by
    intro q
    induction q with
    | zero =>
      intro f i d hi hf hd h9
      obtain ⟨g, rfl⟩ : ∃ g, f = g + 1 := ⟨f - 1, by omega⟩
      have e1 : i = 12 := by omega
      subst e1
      refine ⟨d, ?_, hd, h9, fun s => rfl⟩
      show B_X9_sleepOn_0 N m (nI n) tu of (F_X9_sleepOn_0 N m (nI n) tu of g) d = _
      unfold B_X9_sleepOn_0
      rw [show (9 : Int32) = nI 9 from rfl, rd_nI (by omega) (by omega), h9, if_pos (ge12 (Nat.le_refl _) (by omega))]
    | succ q ih =>
      intro f i d hi hf hd h9
      obtain ⟨g, rfl⟩ : ∃ g, f = g + 1 := ⟨f - 1, by omega⟩
      have hcd : CaOk n d := fun s hs => by rw [hd s (by omega)]; exact hc s hs
      obtain ⟨w, hw, hb⟩ := v_X9_pass hN M (tu := tu) hm hcd (h := i) (by omega) h9
      have hin : ∀ k s, innM n d k s = innM n c k s := fun k s => by
        rw [innM, innM]
        by_cases hs : s < n
        · rw [hd s (by omega)]
        · rw [decide_eq_false (fun e => hs e.1), decide_eq_false (fun e => hs e.1)]
      obtain ⟨c', e1, e2, e3, e4⟩ := ih g (i + 1) (upd (upd d 8 (d 8 ||| w)) 9 (nI (i + 1))) (by omega) (by omega) (fun s hs => by rw [pk_un (by omega), pk_un (by omega)]; exact hd s hs) pk_us
      refine ⟨c', ?_, e2, e3, fun s => ?_⟩
      · show B_X9_sleepOn_0 N m (nI n) tu of (F_X9_sleepOn_0 N m (nI n) tu of g) d = _
        unfold B_X9_sleepOn_0
        rw [show (9 : Int32) = nI 9 from rfl, rd_nI (by omega) (by omega), h9, if_neg (nge12 (by omega)), bnd_of hw]
        exact e1
      · rw [e4 s, moG]
        refine congrFun (moG_congr q (i + 1) (fun t => ?_)) s
        rw [pk_un (by decide), pk_us, b_or, hb t, stG_congr hin]
  exact key (12 - h) N h c (by omega) (by omega) (fun _ _ => rfl) h9
end Model

def bt (x : Int32) (i : Nat) : Bool := x.toBitVec.getLsbD i
theorem b_ext {x y : Int32} (h : ∀ i, i < 32 → bt x i = bt y i) : x = y := Int32.toBitVec_inj.mp (BitVec.eq_of_getLsbD_eq (fun i hi => h i hi))
theorem b_or (x y : Int32) (i : Nat) : bt (x ||| y) i = (bt x i || bt y i) := by unfold bt; rw [Int32.toBitVec_or, BitVec.getLsbD_or]
theorem b_and (x y : Int32) (i : Nat) : bt (x &&& y) i = (bt x i && bt y i) := by unfold bt; rw [Int32.toBitVec_and, BitVec.getLsbD_and]
theorem b_xor (x y : Int32) (i : Nat) : bt (x ^^^ y) i = (bt x i ^^ bt y i) := by unfold bt; rw [Int32.toBitVec_xor, BitVec.getLsbD_xor]
theorem b_big {x : Int32} {i : Nat} (h : 32 ≤ i) : bt x i = false := BitVec.getLsbD_of_ge _ _ h
theorem b_255 (i : Nat) : bt 255 i = decide (i < 8) := by
  rcases Nat.lt_or_ge i 32 with h | h
  · exact (by decide +kernel : ∀ i, i < 32 → bt 255 i = decide (i < 8)) i h
  · rw [b_big h, decide_eq_false (by omega)]
theorem b_65535 (i : Nat) : bt 65535 i = decide (i < 16) := by
  rcases Nat.lt_or_ge i 32 with h | h
  · exact (by decide +kernel : ∀ i, i < 32 → bt 65535 i = decide (i < 16)) i h
  · rw [b_big h, decide_eq_false (by omega)]
theorem b_m1 : ∀ i, i < 32 → bt (-1) i = true := by decide +kernel
theorem b_0 (i : Nat) : bt 0 i = false := BitVec.getLsbD_zero
theorem s_l : ∀ n, n < 32 → ((nI n &&& 31).toBitVec.smod 32).toNat = n := by decide +kernel
theorem s_u : ∀ n, n < 32 → (((nI n).toUInt32 &&& Int32.toUInt32 31).toBitVec % 32).toNat = n := by decide +kernel
theorem b_shl (n : Nat) (hn : n < 32) (x : Int32) {i : Nat} (hi : i < 32) : bt (x <<< (nI n &&& 31)) i = (decide (n ≤ i) && bt x (i - n)) := by
  unfold bt
  rw [Int32.toBitVec_shiftLeft]
  show (x.toBitVec <<< ((nI n &&& 31).toBitVec.smod 32).toNat).getLsbD i = _
  rw [s_l n hn, BitVec.getLsbD_shiftLeft]
  rcases Nat.lt_or_ge i n with h | h
  · simp [h, Nat.not_le.mpr h]
  · simp [hi, h, Nat.not_lt.mpr h]
theorem b_ushr (n : Nat) (hn : n < 32) (x : Int32) (i : Nat) : bt ((x.toUInt32 >>> ((nI n).toUInt32 &&& Int32.toUInt32 31)).toInt32) i = bt x (n + i) := by
  show (x.toUInt32 >>> ((nI n).toUInt32 &&& Int32.toUInt32 31)).toBitVec.getLsbD i = x.toUInt32.toBitVec.getLsbD (n + i)
  rw [UInt32.toBitVec_shiftRight]
  show (x.toUInt32.toBitVec >>> (((nI n).toUInt32 &&& Int32.toUInt32 31).toBitVec % 32).toNat).getLsbD i = _
  rw [s_u n hn, BitVec.getLsbD_ushiftRight]
theorem b_sshr (n : Nat) (hn : n < 32) (x : Int32) {i : Nat} (hi : i < 32) : bt (x >>> (nI n &&& 31)) i = if n + i < 32 then bt x (n + i) else bt x 31 := by
  unfold bt
  rw [Int32.toBitVec_shiftRight]
  show (x.toBitVec.sshiftRight ((nI n &&& 31).toBitVec.smod 32).toNat).getLsbD i = _
  rw [s_l n hn, BitVec.getLsbD_sshiftRight, BitVec.msb_eq_getLsbD_last]
  simp [hi]
theorem b_shl8 (x : Int32) {i : Nat} (hi : i < 32) : bt (x <<< ((8 : Int32) &&& 31)) i = (decide (8 ≤ i) && bt x (i - 8)) := b_shl 8 (by omega) x hi
theorem b_shl16 (x : Int32) {i : Nat} (hi : i < 32) : bt (x <<< ((16 : Int32) &&& 31)) i = (decide (16 ≤ i) && bt x (i - 16)) := b_shl 16 (by omega) x hi
theorem b_shl24 (x : Int32) {i : Nat} (hi : i < 32) : bt (x <<< ((24 : Int32) &&& 31)) i = (decide (24 ≤ i) && bt x (i - 24)) := b_shl 24 (by omega) x hi
theorem b_sshr8 (x : Int32) {i : Nat} (hi : i < 32) : bt (x >>> ((8 : Int32) &&& 31)) i = if 8 + i < 32 then bt x (8 + i) else bt x 31 := b_sshr 8 (by omega) x hi
theorem bnd_some {α β : Type} (a : α) (k : α → Option β) : bnd (some a) k = k a := rfl
theorem bnd_of {α β : Type} {F : Option α} {a : α} (h : F = some a) (k : α → Option β) : bnd F k = k a := by rw [h]; rfl
theorem rd_nI {α β : Type} {n i : Nat} {f : Nat → α} {k : α → Option β} (h : i < n) (hn : n < 2147483648) : rd n f (nI i) k = k (f i) := by
  unfold rd
  rw [if_neg (vp_in_nI h (by omega)), nI_clamp (by omega)]
theorem wr_nI {β : Type} {n i : Nat} {f : Nat → Int32} {x : Int32} {k : (Nat → Int32) → Option β} (h : i < n) (hn : n < 2147483648) : wr n f (nI i) x k = k (upd f i x) := by
  unfold wr
  rw [if_neg (vp_in_nI h (by omega)), nI_clamp (by omega)]
theorem nz_ok {β : Type} {y : Int32} {k : Option β} (h : ¬ y = 0) : nz y k = k := if_neg h
theorem bg_0 {β : Type} (k : Option β) : bg 0 k = k := if_pos (Or.inl rfl)
theorem bg_1 {β : Type} (k : Option β) : bg 1 k = k := if_pos (Or.inr rfl)
theorem i_le {a b : Nat} (h : a ≤ b) (hb : b < 2147483648) : nI a ≤ nI b := nI_le h hb
theorem i_nle {a b : Nat} (h : b < a) (ha : a < 2147483648) : ¬ nI a ≤ nI b := nI_ge h ha
theorem i_lt {a b : Nat} (h : a < b) (hb : b < 2147483648) : nI a < nI b := nI_lt h hb
theorem i_nlt {a b : Nat} (h : b ≤ a) (ha : a < 2147483648) : ¬ nI a < nI b := nI_nlt h ha
theorem i_inj {a b : Nat} (ha : a < 2147483648) (hb : b < 2147483648) (h : nI a = nI b) : a = b := (nI_eq ha hb).mp h
theorem i_ne {a b : Nat} (ha : a < 2147483648) (hb : b < 2147483648) (h : a ≠ b) : ¬ nI a = nI b := fun e => h (i_inj ha hb e)
theorem i_s (a : Nat) : nI a + (1 : Int32) = nI (a + 1) := nI_1 a
theorem i_m1 {a : Nat} (ha : a < 2147483648) : ¬ nI a = (-1 : Int32) := by
  intro e
  have h1 := congrArg Int32.toInt e
  rw [nI_toInt (by omega), show (-1 : Int32).toInt = -1 from rfl] at h1
  omega
theorem i_m1' {a : Nat} (ha : a < 2147483648) : ¬ (-1 : Int32) = nI a := fun e => i_m1 ha e.symm
theorem i_n0 {a : Nat} (ha : a < 2147483648) : ¬ nI a < (0 : Int32) := i_nlt (a := a) (b := 0) (Nat.zero_le _) ha
theorem x_or0 (x : Int32) : x ||| 0 = x := b_ext (fun i _ => by rw [b_or, b_0, Bool.or_false])
theorem x_0or (x : Int32) : 0 ||| x = x := b_ext (fun i _ => by rw [b_or, b_0, Bool.false_or])
theorem bt_1 : ∀ i, i < 32 → bt 1 i = decide (i = 0) := by decide +kernel
theorem bt_bit {s : Nat} (hs : s < 32) (i : Nat) : bt ((1 : Int32) <<< (nI s &&& 31)) i = decide (i = s) := by
  rcases Nat.lt_or_ge i 32 with hi | hi
  · rw [b_shl s hs 1 hi]
    rcases Nat.lt_or_ge i s with h | h
    · rw [decide_eq_false (by omega : ¬ s ≤ i), decide_eq_false (by omega : ¬ i = s), Bool.false_and]
    · rw [decide_eq_true h, Bool.true_and, bt_1 _ (by omega)]
      by_cases e : i = s
      · rw [decide_eq_true e, decide_eq_true (by omega)]
      · rw [decide_eq_false e, decide_eq_false (by omega)]
  · rw [b_big hi, decide_eq_false (by omega)]
theorem bt_tst {x : Int32} {s : Nat} (hs : s < 32) : (x >>> (nI s &&& 31)) &&& 1 = if bt x s = true then 1 else 0 := by
  refine b_ext (fun i hi => ?_)
  rw [b_and, b_sshr s hs x hi, bt_1 i hi]
  by_cases e : i = 0
  · subst e
    rw [if_pos (by omega), decide_eq_true rfl, Bool.and_true]
    by_cases q : bt x s = true
    · rw [if_pos q, show s + 0 = s from rfl, q]; rfl
    · have q2 : bt x s = false := by simpa using q
      rw [if_neg q, show s + 0 = s from rfl, q2, b_0]
  · rw [decide_eq_false e, Bool.and_false]
    by_cases q : bt x s = true
    · rw [if_pos q, bt_1 i hi, decide_eq_false e]
    · rw [if_neg q, b_0]
theorem bt_one {x : Int32} {s : Nat} (hs : s < 32) : ((x >>> (nI s &&& 31)) &&& 1 = 1) ↔ bt x s = true := by
  rw [bt_tst hs]
  by_cases q : bt x s = true
  · rw [if_pos q]; exact ⟨fun _ => q, fun _ => rfl⟩
  · rw [if_neg q]; exact ⟨fun h => absurd h (by decide), fun h => absurd h q⟩
theorem bt_not (x : Int32) {i : Nat} (hi : i < 32) : bt (x ^^^ (-1)) i = !bt x i := by
  rw [b_xor, b_m1 i hi, Bool.xor_true]
def sumN (g : Nat → Int32) : Nat → Int32
  | 0 => 0
  | n + 1 => sumN g n + g n
theorem sumN_congr {g g' : Nat → Int32} : ∀ {n : Nat}, (∀ i, i < n → g i = g' i) → sumN g n = sumN g' n
  | 0, _ => rfl
  | n + 1, h => by rw [sumN, sumN, sumN_congr (fun i hi => h i (by omega)), h n (by omega)]
theorem x_add0 (x : Int32) : x + 0 = x := by
  apply Int32.toBitVec_inj.mp
  show x.toBitVec + 0#32 = x.toBitVec
  exact BitVec.add_zero _
theorem sumN_more {g : Nat → Int32} {n : Nat} : ∀ m : Nat, (∀ i, n ≤ i → i < n + m → g i = 0) → sumN g (n + m) = sumN g n
  | 0, _ => rfl
  | m + 1, h => by
    show sumN g (n + m) + g (n + m) = _
    rw [sumN_more m (fun i h1 h2 => h i h1 (by omega)), h (n + m) (by omega) (by omega), x_add0]
def setN (p : Nat → Bool) : Nat → Int32
  | 0 => 0
  | n + 1 => if p n = true then setN p n ||| ((1 : Int32) <<< (nI n &&& 31)) else setN p n
theorem bt_setN (p : Nat → Bool) : ∀ {n : Nat}, n ≤ 32 → ∀ i, bt (setN p n) i = (decide (i < n) && p i)
  | 0, _, i => by rw [setN, b_0, decide_eq_false (by omega), Bool.false_and]
  | n + 1, hn, i => by
    have ih := bt_setN p (n := n) (by omega) i
    rw [setN]
    by_cases h : p n = true
    · rw [if_pos h, b_or, ih, bt_bit (by omega)]
      by_cases e : i = n
      · subst e; rw [h, decide_eq_true rfl, decide_eq_true (by omega : i < i + 1), Bool.or_true]; rfl
      · rw [decide_eq_false e, Bool.or_false]
        by_cases q : i < n
        · rw [decide_eq_true q, decide_eq_true (by omega : i < n + 1)]
        · rw [decide_eq_false q, decide_eq_false (by omega : ¬ i < n + 1)]
    · rw [if_neg h, ih]
      by_cases e : i = n
      · subst e
        have h2 : p i = false := by simpa using h
        rw [decide_eq_false (by omega : ¬ i < i), decide_eq_true (by omega : i < i + 1), h2]; rfl
      · by_cases q : i < n
        · rw [decide_eq_true q, decide_eq_true (by omega : i < n + 1)]
        · rw [decide_eq_false q, decide_eq_false (by omega : ¬ i < n + 1)]
theorem setN_congr {p q : Nat → Bool} : ∀ {n : Nat}, (∀ i, i < n → p i = q i) → setN p n = setN q n
  | 0, _ => rfl
  | n + 1, h => by rw [setN, setN, setN_congr (fun i hi => h i (by omega)), h n (by omega)]
theorem lq1_run {A1 ω : Type} {body : (A1 → Option ω) → A1 → Option ω} (s1 : Nat → A1) (e : Nat) (v : Option ω) (hs : ∀ self i, i < e → body self (s1 i) = self (s1 (i + 1))) (hx : ∀ self, body self (s1 e) = v) : ∀ n, e < n → lq1 body n (s1 0) = v := by
  have key : ∀ m n i, i + m = e → m < n → lq1 body n (s1 i) = v := by
    intro m
    induction m with
    | zero =>
      intro n i hi hn
      obtain ⟨k, rfl⟩ : ∃ k, n = k + 1 := ⟨n - 1, by omega⟩
      have e1 : i = e := by omega
      subst e1
      exact hx _
    | succ m ih =>
      intro n i hi hn
      obtain ⟨k, rfl⟩ : ∃ k, n = k + 1 := ⟨n - 1, by omega⟩
      exact (hs _ i (by omega)).trans (ih k (i + 1) (by omega) (by omega))
  intro n hn
  exact key e n 0 (by omega) hn
theorem lq2_run {A1 A2 ω : Type} {body : (A1 → A2 → Option ω) → A1 → A2 → Option ω} (s1 : Nat → A1) (s2 : Nat → A2) (e : Nat) (v : Option ω) (hs : ∀ self i, i < e → body self (s1 i) (s2 i) = self (s1 (i + 1)) (s2 (i + 1))) (hx : ∀ self, body self (s1 e) (s2 e) = v) : ∀ n, e < n → lq2 body n (s1 0) (s2 0) = v := by
  have key : ∀ m n i, i + m = e → m < n → lq2 body n (s1 i) (s2 i) = v := by
    intro m
    induction m with
    | zero =>
      intro n i hi hn
      obtain ⟨k, rfl⟩ : ∃ k, n = k + 1 := ⟨n - 1, by omega⟩
      have e1 : i = e := by omega
      subst e1
      exact hx _
    | succ m ih =>
      intro n i hi hn
      obtain ⟨k, rfl⟩ : ∃ k, n = k + 1 := ⟨n - 1, by omega⟩
      exact (hs _ i (by omega)).trans (ih k (i + 1) (by omega) (by omega))
  intro n hn
  exact key e n 0 (by omega) hn
theorem lq3_run {A1 A2 A3 ω : Type} {body : (A1 → A2 → A3 → Option ω) → A1 → A2 → A3 → Option ω} (s1 : Nat → A1) (s2 : Nat → A2) (s3 : Nat → A3) (e : Nat) (v : Option ω) (hs : ∀ self i, i < e → body self (s1 i) (s2 i) (s3 i) = self (s1 (i + 1)) (s2 (i + 1)) (s3 (i + 1))) (hx : ∀ self, body self (s1 e) (s2 e) (s3 e) = v) : ∀ n, e < n → lq3 body n (s1 0) (s2 0) (s3 0) = v := by
  have key : ∀ m n i, i + m = e → m < n → lq3 body n (s1 i) (s2 i) (s3 i) = v := by
    intro m
    induction m with
    | zero =>
      intro n i hi hn
      obtain ⟨k, rfl⟩ : ∃ k, n = k + 1 := ⟨n - 1, by omega⟩
      have e1 : i = e := by omega
      subst e1
      exact hx _
    | succ m ih =>
      intro n i hi hn
      obtain ⟨k, rfl⟩ : ∃ k, n = k + 1 := ⟨n - 1, by omega⟩
      exact (hs _ i (by omega)).trans (ih k (i + 1) (by omega) (by omega))
  intro n hn
  exact key e n 0 (by omega) hn
theorem lq4_run {A1 A2 A3 A4 ω : Type} {body : (A1 → A2 → A3 → A4 → Option ω) → A1 → A2 → A3 → A4 → Option ω} (s1 : Nat → A1) (s2 : Nat → A2) (s3 : Nat → A3) (s4 : Nat → A4) (e : Nat) (v : Option ω) (hs : ∀ self i, i < e → body self (s1 i) (s2 i) (s3 i) (s4 i) = self (s1 (i + 1)) (s2 (i + 1)) (s3 (i + 1)) (s4 (i + 1))) (hx : ∀ self, body self (s1 e) (s2 e) (s3 e) (s4 e) = v) : ∀ n, e < n → lq4 body n (s1 0) (s2 0) (s3 0) (s4 0) = v := by
  have key : ∀ m n i, i + m = e → m < n → lq4 body n (s1 i) (s2 i) (s3 i) (s4 i) = v := by
    intro m
    induction m with
    | zero =>
      intro n i hi hn
      obtain ⟨k, rfl⟩ : ∃ k, n = k + 1 := ⟨n - 1, by omega⟩
      have e1 : i = e := by omega
      subst e1
      exact hx _
    | succ m ih =>
      intro n i hi hn
      obtain ⟨k, rfl⟩ : ∃ k, n = k + 1 := ⟨n - 1, by omega⟩
      exact (hs _ i (by omega)).trans (ih k (i + 1) (by omega) (by omega))
  intro n hn
  exact key e n 0 (by omega) hn
theorem lq5_run {A1 A2 A3 A4 A5 ω : Type} {body : (A1 → A2 → A3 → A4 → A5 → Option ω) → A1 → A2 → A3 → A4 → A5 → Option ω} (s1 : Nat → A1) (s2 : Nat → A2) (s3 : Nat → A3) (s4 : Nat → A4) (s5 : Nat → A5) (e : Nat) (v : Option ω) (hs : ∀ self i, i < e → body self (s1 i) (s2 i) (s3 i) (s4 i) (s5 i) = self (s1 (i + 1)) (s2 (i + 1)) (s3 (i + 1)) (s4 (i + 1)) (s5 (i + 1))) (hx : ∀ self, body self (s1 e) (s2 e) (s3 e) (s4 e) (s5 e) = v) : ∀ n, e < n → lq5 body n (s1 0) (s2 0) (s3 0) (s4 0) (s5 0) = v := by
  have key : ∀ m n i, i + m = e → m < n → lq5 body n (s1 i) (s2 i) (s3 i) (s4 i) (s5 i) = v := by
    intro m
    induction m with
    | zero =>
      intro n i hi hn
      obtain ⟨k, rfl⟩ : ∃ k, n = k + 1 := ⟨n - 1, by omega⟩
      have e1 : i = e := by omega
      subst e1
      exact hx _
    | succ m ih =>
      intro n i hi hn
      obtain ⟨k, rfl⟩ : ∃ k, n = k + 1 := ⟨n - 1, by omega⟩
      exact (hs _ i (by omega)).trans (ih k (i + 1) (by omega) (by omega))
  intro n hn
  exact key e n 0 (by omega) hn
theorem lq6_run {A1 A2 A3 A4 A5 A6 ω : Type} {body : (A1 → A2 → A3 → A4 → A5 → A6 → Option ω) → A1 → A2 → A3 → A4 → A5 → A6 → Option ω} (s1 : Nat → A1) (s2 : Nat → A2) (s3 : Nat → A3) (s4 : Nat → A4) (s5 : Nat → A5) (s6 : Nat → A6) (e : Nat) (v : Option ω) (hs : ∀ self i, i < e → body self (s1 i) (s2 i) (s3 i) (s4 i) (s5 i) (s6 i) = self (s1 (i + 1)) (s2 (i + 1)) (s3 (i + 1)) (s4 (i + 1)) (s5 (i + 1)) (s6 (i + 1))) (hx : ∀ self, body self (s1 e) (s2 e) (s3 e) (s4 e) (s5 e) (s6 e) = v) : ∀ n, e < n → lq6 body n (s1 0) (s2 0) (s3 0) (s4 0) (s5 0) (s6 0) = v := by
  have key : ∀ m n i, i + m = e → m < n → lq6 body n (s1 i) (s2 i) (s3 i) (s4 i) (s5 i) (s6 i) = v := by
    intro m
    induction m with
    | zero =>
      intro n i hi hn
      obtain ⟨k, rfl⟩ : ∃ k, n = k + 1 := ⟨n - 1, by omega⟩
      have e1 : i = e := by omega
      subst e1
      exact hx _
    | succ m ih =>
      intro n i hi hn
      obtain ⟨k, rfl⟩ : ∃ k, n = k + 1 := ⟨n - 1, by omega⟩
      exact (hs _ i (by omega)).trans (ih k (i + 1) (by omega) (by omega))
  intro n hn
  exact key e n 0 (by omega) hn
theorem lq7_run {A1 A2 A3 A4 A5 A6 A7 ω : Type} {body : (A1 → A2 → A3 → A4 → A5 → A6 → A7 → Option ω) → A1 → A2 → A3 → A4 → A5 → A6 → A7 → Option ω} (s1 : Nat → A1) (s2 : Nat → A2) (s3 : Nat → A3) (s4 : Nat → A4) (s5 : Nat → A5) (s6 : Nat → A6) (s7 : Nat → A7) (e : Nat) (v : Option ω) (hs : ∀ self i, i < e → body self (s1 i) (s2 i) (s3 i) (s4 i) (s5 i) (s6 i) (s7 i) = self (s1 (i + 1)) (s2 (i + 1)) (s3 (i + 1)) (s4 (i + 1)) (s5 (i + 1)) (s6 (i + 1)) (s7 (i + 1))) (hx : ∀ self, body self (s1 e) (s2 e) (s3 e) (s4 e) (s5 e) (s6 e) (s7 e) = v) : ∀ n, e < n → lq7 body n (s1 0) (s2 0) (s3 0) (s4 0) (s5 0) (s6 0) (s7 0) = v := by
  have key : ∀ m n i, i + m = e → m < n → lq7 body n (s1 i) (s2 i) (s3 i) (s4 i) (s5 i) (s6 i) (s7 i) = v := by
    intro m
    induction m with
    | zero =>
      intro n i hi hn
      obtain ⟨k, rfl⟩ : ∃ k, n = k + 1 := ⟨n - 1, by omega⟩
      have e1 : i = e := by omega
      subst e1
      exact hx _
    | succ m ih =>
      intro n i hi hn
      obtain ⟨k, rfl⟩ : ∃ k, n = k + 1 := ⟨n - 1, by omega⟩
      exact (hs _ i (by omega)).trans (ih k (i + 1) (by omega) (by omega))
  intro n hn
  exact key e n 0 (by omega) hn
theorem lq8_run {A1 A2 A3 A4 A5 A6 A7 A8 ω : Type} {body : (A1 → A2 → A3 → A4 → A5 → A6 → A7 → A8 → Option ω) → A1 → A2 → A3 → A4 → A5 → A6 → A7 → A8 → Option ω} (s1 : Nat → A1) (s2 : Nat → A2) (s3 : Nat → A3) (s4 : Nat → A4) (s5 : Nat → A5) (s6 : Nat → A6) (s7 : Nat → A7) (s8 : Nat → A8) (e : Nat) (v : Option ω) (hs : ∀ self i, i < e → body self (s1 i) (s2 i) (s3 i) (s4 i) (s5 i) (s6 i) (s7 i) (s8 i) = self (s1 (i + 1)) (s2 (i + 1)) (s3 (i + 1)) (s4 (i + 1)) (s5 (i + 1)) (s6 (i + 1)) (s7 (i + 1)) (s8 (i + 1))) (hx : ∀ self, body self (s1 e) (s2 e) (s3 e) (s4 e) (s5 e) (s6 e) (s7 e) (s8 e) = v) : ∀ n, e < n → lq8 body n (s1 0) (s2 0) (s3 0) (s4 0) (s5 0) (s6 0) (s7 0) (s8 0) = v := by
  have key : ∀ m n i, i + m = e → m < n → lq8 body n (s1 i) (s2 i) (s3 i) (s4 i) (s5 i) (s6 i) (s7 i) (s8 i) = v := by
    intro m
    induction m with
    | zero =>
      intro n i hi hn
      obtain ⟨k, rfl⟩ : ∃ k, n = k + 1 := ⟨n - 1, by omega⟩
      have e1 : i = e := by omega
      subst e1
      exact hx _
    | succ m ih =>
      intro n i hi hn
      obtain ⟨k, rfl⟩ : ∃ k, n = k + 1 := ⟨n - 1, by omega⟩
      exact (hs _ i (by omega)).trans (ih k (i + 1) (by omega) (by omega))
  intro n hn
  exact key e n 0 (by omega) hn
theorem o_ge {n i : Nat} (h : n ≤ i) (hi : i < 2147483648) : Int32.ofNat n ≤ nI i := i_le h hi
theorem o_nge {n i : Nat} (h : i < n) (hn : n < 2147483648) : ¬ Int32.ofNat n ≤ nI i := i_nle h hn
theorem ge0 {i : Nat} (h : 0 ≤ i) (hi : i < 2147483648) : (0 : Int32) ≤ nI i := i_le (a := 0) h hi
theorem nge0 {i : Nat} (h : i < 0) : ¬ (0 : Int32) ≤ nI i := i_nle (a := 0) h (by omega)
theorem le0 {i : Nat} (h : i ≤ 0) : nI i ≤ (0 : Int32) := i_le (b := 0) h (by omega)
theorem nle0 {i : Nat} (h : 0 < i) (hi : i < 2147483648) : ¬ nI i ≤ (0 : Int32) := i_nle (b := 0) h hi
theorem gt0 {i : Nat} (h : 0 < i) (hi : i < 2147483648) : (0 : Int32) < nI i := i_lt (a := 0) h hi
theorem ngt0 {i : Nat} (h : i ≤ 0) : ¬ (0 : Int32) < nI i := i_nlt (a := 0) h (by omega)
theorem lt0 {i : Nat} (h : i < 0) : nI i < (0 : Int32) := i_lt (b := 0) h (by omega)
theorem nlt0 {i : Nat} (h : 0 ≤ i) (hi : i < 2147483648) : ¬ nI i < (0 : Int32) := i_nlt (b := 0) h hi
theorem ne0 {i : Nat} (h : i ≠ 0) (hi : i < 2147483648) : ¬ nI i = (0 : Int32) := i_ne (b := 0) hi (by omega) h
theorem ge1 {i : Nat} (h : 1 ≤ i) (hi : i < 2147483648) : (1 : Int32) ≤ nI i := i_le (a := 1) h hi
theorem nge1 {i : Nat} (h : i < 1) : ¬ (1 : Int32) ≤ nI i := i_nle (a := 1) h (by omega)
theorem le1 {i : Nat} (h : i ≤ 1) : nI i ≤ (1 : Int32) := i_le (b := 1) h (by omega)
theorem nle1 {i : Nat} (h : 1 < i) (hi : i < 2147483648) : ¬ nI i ≤ (1 : Int32) := i_nle (b := 1) h hi
theorem gt1 {i : Nat} (h : 1 < i) (hi : i < 2147483648) : (1 : Int32) < nI i := i_lt (a := 1) h hi
theorem ngt1 {i : Nat} (h : i ≤ 1) : ¬ (1 : Int32) < nI i := i_nlt (a := 1) h (by omega)
theorem lt1 {i : Nat} (h : i < 1) : nI i < (1 : Int32) := i_lt (b := 1) h (by omega)
theorem nlt1 {i : Nat} (h : 1 ≤ i) (hi : i < 2147483648) : ¬ nI i < (1 : Int32) := i_nlt (b := 1) h hi
theorem ne1 {i : Nat} (h : i ≠ 1) (hi : i < 2147483648) : ¬ nI i = (1 : Int32) := i_ne (b := 1) hi (by omega) h
theorem ge2 {i : Nat} (h : 2 ≤ i) (hi : i < 2147483648) : (2 : Int32) ≤ nI i := i_le (a := 2) h hi
theorem nge2 {i : Nat} (h : i < 2) : ¬ (2 : Int32) ≤ nI i := i_nle (a := 2) h (by omega)
theorem le2 {i : Nat} (h : i ≤ 2) : nI i ≤ (2 : Int32) := i_le (b := 2) h (by omega)
theorem nle2 {i : Nat} (h : 2 < i) (hi : i < 2147483648) : ¬ nI i ≤ (2 : Int32) := i_nle (b := 2) h hi
theorem gt2 {i : Nat} (h : 2 < i) (hi : i < 2147483648) : (2 : Int32) < nI i := i_lt (a := 2) h hi
theorem ngt2 {i : Nat} (h : i ≤ 2) : ¬ (2 : Int32) < nI i := i_nlt (a := 2) h (by omega)
theorem lt2 {i : Nat} (h : i < 2) : nI i < (2 : Int32) := i_lt (b := 2) h (by omega)
theorem nlt2 {i : Nat} (h : 2 ≤ i) (hi : i < 2147483648) : ¬ nI i < (2 : Int32) := i_nlt (b := 2) h hi
theorem ne2 {i : Nat} (h : i ≠ 2) (hi : i < 2147483648) : ¬ nI i = (2 : Int32) := i_ne (b := 2) hi (by omega) h
theorem ge3 {i : Nat} (h : 3 ≤ i) (hi : i < 2147483648) : (3 : Int32) ≤ nI i := i_le (a := 3) h hi
theorem nge3 {i : Nat} (h : i < 3) : ¬ (3 : Int32) ≤ nI i := i_nle (a := 3) h (by omega)
theorem le3 {i : Nat} (h : i ≤ 3) : nI i ≤ (3 : Int32) := i_le (b := 3) h (by omega)
theorem nle3 {i : Nat} (h : 3 < i) (hi : i < 2147483648) : ¬ nI i ≤ (3 : Int32) := i_nle (b := 3) h hi
theorem gt3 {i : Nat} (h : 3 < i) (hi : i < 2147483648) : (3 : Int32) < nI i := i_lt (a := 3) h hi
theorem ngt3 {i : Nat} (h : i ≤ 3) : ¬ (3 : Int32) < nI i := i_nlt (a := 3) h (by omega)
theorem lt3 {i : Nat} (h : i < 3) : nI i < (3 : Int32) := i_lt (b := 3) h (by omega)
theorem nlt3 {i : Nat} (h : 3 ≤ i) (hi : i < 2147483648) : ¬ nI i < (3 : Int32) := i_nlt (b := 3) h hi
theorem ne3 {i : Nat} (h : i ≠ 3) (hi : i < 2147483648) : ¬ nI i = (3 : Int32) := i_ne (b := 3) hi (by omega) h
theorem ge4 {i : Nat} (h : 4 ≤ i) (hi : i < 2147483648) : (4 : Int32) ≤ nI i := i_le (a := 4) h hi
theorem nge4 {i : Nat} (h : i < 4) : ¬ (4 : Int32) ≤ nI i := i_nle (a := 4) h (by omega)
theorem le4 {i : Nat} (h : i ≤ 4) : nI i ≤ (4 : Int32) := i_le (b := 4) h (by omega)
theorem nle4 {i : Nat} (h : 4 < i) (hi : i < 2147483648) : ¬ nI i ≤ (4 : Int32) := i_nle (b := 4) h hi
theorem gt4 {i : Nat} (h : 4 < i) (hi : i < 2147483648) : (4 : Int32) < nI i := i_lt (a := 4) h hi
theorem ngt4 {i : Nat} (h : i ≤ 4) : ¬ (4 : Int32) < nI i := i_nlt (a := 4) h (by omega)
theorem lt4 {i : Nat} (h : i < 4) : nI i < (4 : Int32) := i_lt (b := 4) h (by omega)
theorem nlt4 {i : Nat} (h : 4 ≤ i) (hi : i < 2147483648) : ¬ nI i < (4 : Int32) := i_nlt (b := 4) h hi
theorem ne4 {i : Nat} (h : i ≠ 4) (hi : i < 2147483648) : ¬ nI i = (4 : Int32) := i_ne (b := 4) hi (by omega) h
theorem ge5 {i : Nat} (h : 5 ≤ i) (hi : i < 2147483648) : (5 : Int32) ≤ nI i := i_le (a := 5) h hi
theorem nge5 {i : Nat} (h : i < 5) : ¬ (5 : Int32) ≤ nI i := i_nle (a := 5) h (by omega)
theorem le5 {i : Nat} (h : i ≤ 5) : nI i ≤ (5 : Int32) := i_le (b := 5) h (by omega)
theorem nle5 {i : Nat} (h : 5 < i) (hi : i < 2147483648) : ¬ nI i ≤ (5 : Int32) := i_nle (b := 5) h hi
theorem gt5 {i : Nat} (h : 5 < i) (hi : i < 2147483648) : (5 : Int32) < nI i := i_lt (a := 5) h hi
theorem ngt5 {i : Nat} (h : i ≤ 5) : ¬ (5 : Int32) < nI i := i_nlt (a := 5) h (by omega)
theorem lt5 {i : Nat} (h : i < 5) : nI i < (5 : Int32) := i_lt (b := 5) h (by omega)
theorem nlt5 {i : Nat} (h : 5 ≤ i) (hi : i < 2147483648) : ¬ nI i < (5 : Int32) := i_nlt (b := 5) h hi
theorem ne5 {i : Nat} (h : i ≠ 5) (hi : i < 2147483648) : ¬ nI i = (5 : Int32) := i_ne (b := 5) hi (by omega) h
theorem ge6 {i : Nat} (h : 6 ≤ i) (hi : i < 2147483648) : (6 : Int32) ≤ nI i := i_le (a := 6) h hi
theorem nge6 {i : Nat} (h : i < 6) : ¬ (6 : Int32) ≤ nI i := i_nle (a := 6) h (by omega)
theorem le6 {i : Nat} (h : i ≤ 6) : nI i ≤ (6 : Int32) := i_le (b := 6) h (by omega)
theorem nle6 {i : Nat} (h : 6 < i) (hi : i < 2147483648) : ¬ nI i ≤ (6 : Int32) := i_nle (b := 6) h hi
theorem gt6 {i : Nat} (h : 6 < i) (hi : i < 2147483648) : (6 : Int32) < nI i := i_lt (a := 6) h hi
theorem ngt6 {i : Nat} (h : i ≤ 6) : ¬ (6 : Int32) < nI i := i_nlt (a := 6) h (by omega)
theorem lt6 {i : Nat} (h : i < 6) : nI i < (6 : Int32) := i_lt (b := 6) h (by omega)
theorem nlt6 {i : Nat} (h : 6 ≤ i) (hi : i < 2147483648) : ¬ nI i < (6 : Int32) := i_nlt (b := 6) h hi
theorem ne6 {i : Nat} (h : i ≠ 6) (hi : i < 2147483648) : ¬ nI i = (6 : Int32) := i_ne (b := 6) hi (by omega) h
theorem ge7 {i : Nat} (h : 7 ≤ i) (hi : i < 2147483648) : (7 : Int32) ≤ nI i := i_le (a := 7) h hi
theorem nge7 {i : Nat} (h : i < 7) : ¬ (7 : Int32) ≤ nI i := i_nle (a := 7) h (by omega)
theorem le7 {i : Nat} (h : i ≤ 7) : nI i ≤ (7 : Int32) := i_le (b := 7) h (by omega)
theorem nle7 {i : Nat} (h : 7 < i) (hi : i < 2147483648) : ¬ nI i ≤ (7 : Int32) := i_nle (b := 7) h hi
theorem gt7 {i : Nat} (h : 7 < i) (hi : i < 2147483648) : (7 : Int32) < nI i := i_lt (a := 7) h hi
theorem ngt7 {i : Nat} (h : i ≤ 7) : ¬ (7 : Int32) < nI i := i_nlt (a := 7) h (by omega)
theorem lt7 {i : Nat} (h : i < 7) : nI i < (7 : Int32) := i_lt (b := 7) h (by omega)
theorem nlt7 {i : Nat} (h : 7 ≤ i) (hi : i < 2147483648) : ¬ nI i < (7 : Int32) := i_nlt (b := 7) h hi
theorem ne7 {i : Nat} (h : i ≠ 7) (hi : i < 2147483648) : ¬ nI i = (7 : Int32) := i_ne (b := 7) hi (by omega) h
theorem ge8 {i : Nat} (h : 8 ≤ i) (hi : i < 2147483648) : (8 : Int32) ≤ nI i := i_le (a := 8) h hi
theorem nge8 {i : Nat} (h : i < 8) : ¬ (8 : Int32) ≤ nI i := i_nle (a := 8) h (by omega)
theorem le8 {i : Nat} (h : i ≤ 8) : nI i ≤ (8 : Int32) := i_le (b := 8) h (by omega)
theorem nle8 {i : Nat} (h : 8 < i) (hi : i < 2147483648) : ¬ nI i ≤ (8 : Int32) := i_nle (b := 8) h hi
theorem gt8 {i : Nat} (h : 8 < i) (hi : i < 2147483648) : (8 : Int32) < nI i := i_lt (a := 8) h hi
theorem ngt8 {i : Nat} (h : i ≤ 8) : ¬ (8 : Int32) < nI i := i_nlt (a := 8) h (by omega)
theorem lt8 {i : Nat} (h : i < 8) : nI i < (8 : Int32) := i_lt (b := 8) h (by omega)
theorem nlt8 {i : Nat} (h : 8 ≤ i) (hi : i < 2147483648) : ¬ nI i < (8 : Int32) := i_nlt (b := 8) h hi
theorem ne8 {i : Nat} (h : i ≠ 8) (hi : i < 2147483648) : ¬ nI i = (8 : Int32) := i_ne (b := 8) hi (by omega) h
theorem ge9 {i : Nat} (h : 9 ≤ i) (hi : i < 2147483648) : (9 : Int32) ≤ nI i := i_le (a := 9) h hi
theorem nge9 {i : Nat} (h : i < 9) : ¬ (9 : Int32) ≤ nI i := i_nle (a := 9) h (by omega)
theorem le9 {i : Nat} (h : i ≤ 9) : nI i ≤ (9 : Int32) := i_le (b := 9) h (by omega)
theorem nle9 {i : Nat} (h : 9 < i) (hi : i < 2147483648) : ¬ nI i ≤ (9 : Int32) := i_nle (b := 9) h hi
theorem gt9 {i : Nat} (h : 9 < i) (hi : i < 2147483648) : (9 : Int32) < nI i := i_lt (a := 9) h hi
theorem ngt9 {i : Nat} (h : i ≤ 9) : ¬ (9 : Int32) < nI i := i_nlt (a := 9) h (by omega)
theorem lt9 {i : Nat} (h : i < 9) : nI i < (9 : Int32) := i_lt (b := 9) h (by omega)
theorem nlt9 {i : Nat} (h : 9 ≤ i) (hi : i < 2147483648) : ¬ nI i < (9 : Int32) := i_nlt (b := 9) h hi
theorem ne9 {i : Nat} (h : i ≠ 9) (hi : i < 2147483648) : ¬ nI i = (9 : Int32) := i_ne (b := 9) hi (by omega) h
theorem ge10 {i : Nat} (h : 10 ≤ i) (hi : i < 2147483648) : (10 : Int32) ≤ nI i := i_le (a := 10) h hi
theorem nge10 {i : Nat} (h : i < 10) : ¬ (10 : Int32) ≤ nI i := i_nle (a := 10) h (by omega)
theorem le10 {i : Nat} (h : i ≤ 10) : nI i ≤ (10 : Int32) := i_le (b := 10) h (by omega)
theorem nle10 {i : Nat} (h : 10 < i) (hi : i < 2147483648) : ¬ nI i ≤ (10 : Int32) := i_nle (b := 10) h hi
theorem gt10 {i : Nat} (h : 10 < i) (hi : i < 2147483648) : (10 : Int32) < nI i := i_lt (a := 10) h hi
theorem ngt10 {i : Nat} (h : i ≤ 10) : ¬ (10 : Int32) < nI i := i_nlt (a := 10) h (by omega)
theorem lt10 {i : Nat} (h : i < 10) : nI i < (10 : Int32) := i_lt (b := 10) h (by omega)
theorem nlt10 {i : Nat} (h : 10 ≤ i) (hi : i < 2147483648) : ¬ nI i < (10 : Int32) := i_nlt (b := 10) h hi
theorem ne10 {i : Nat} (h : i ≠ 10) (hi : i < 2147483648) : ¬ nI i = (10 : Int32) := i_ne (b := 10) hi (by omega) h
theorem ge11 {i : Nat} (h : 11 ≤ i) (hi : i < 2147483648) : (11 : Int32) ≤ nI i := i_le (a := 11) h hi
theorem nge11 {i : Nat} (h : i < 11) : ¬ (11 : Int32) ≤ nI i := i_nle (a := 11) h (by omega)
theorem le11 {i : Nat} (h : i ≤ 11) : nI i ≤ (11 : Int32) := i_le (b := 11) h (by omega)
theorem nle11 {i : Nat} (h : 11 < i) (hi : i < 2147483648) : ¬ nI i ≤ (11 : Int32) := i_nle (b := 11) h hi
theorem gt11 {i : Nat} (h : 11 < i) (hi : i < 2147483648) : (11 : Int32) < nI i := i_lt (a := 11) h hi
theorem ngt11 {i : Nat} (h : i ≤ 11) : ¬ (11 : Int32) < nI i := i_nlt (a := 11) h (by omega)
theorem lt11 {i : Nat} (h : i < 11) : nI i < (11 : Int32) := i_lt (b := 11) h (by omega)
theorem nlt11 {i : Nat} (h : 11 ≤ i) (hi : i < 2147483648) : ¬ nI i < (11 : Int32) := i_nlt (b := 11) h hi
theorem ne11 {i : Nat} (h : i ≠ 11) (hi : i < 2147483648) : ¬ nI i = (11 : Int32) := i_ne (b := 11) hi (by omega) h
theorem ge12 {i : Nat} (h : 12 ≤ i) (hi : i < 2147483648) : (12 : Int32) ≤ nI i := i_le (a := 12) h hi
theorem nge12 {i : Nat} (h : i < 12) : ¬ (12 : Int32) ≤ nI i := i_nle (a := 12) h (by omega)
theorem le12 {i : Nat} (h : i ≤ 12) : nI i ≤ (12 : Int32) := i_le (b := 12) h (by omega)
theorem nle12 {i : Nat} (h : 12 < i) (hi : i < 2147483648) : ¬ nI i ≤ (12 : Int32) := i_nle (b := 12) h hi
theorem gt12 {i : Nat} (h : 12 < i) (hi : i < 2147483648) : (12 : Int32) < nI i := i_lt (a := 12) h hi
theorem ngt12 {i : Nat} (h : i ≤ 12) : ¬ (12 : Int32) < nI i := i_nlt (a := 12) h (by omega)
theorem lt12 {i : Nat} (h : i < 12) : nI i < (12 : Int32) := i_lt (b := 12) h (by omega)
theorem nlt12 {i : Nat} (h : 12 ≤ i) (hi : i < 2147483648) : ¬ nI i < (12 : Int32) := i_nlt (b := 12) h hi
theorem ne12 {i : Nat} (h : i ≠ 12) (hi : i < 2147483648) : ¬ nI i = (12 : Int32) := i_ne (b := 12) hi (by omega) h
theorem ge15 {i : Nat} (h : 15 ≤ i) (hi : i < 2147483648) : (15 : Int32) ≤ nI i := i_le (a := 15) h hi
theorem nge15 {i : Nat} (h : i < 15) : ¬ (15 : Int32) ≤ nI i := i_nle (a := 15) h (by omega)
theorem le15 {i : Nat} (h : i ≤ 15) : nI i ≤ (15 : Int32) := i_le (b := 15) h (by omega)
theorem nle15 {i : Nat} (h : 15 < i) (hi : i < 2147483648) : ¬ nI i ≤ (15 : Int32) := i_nle (b := 15) h hi
theorem gt15 {i : Nat} (h : 15 < i) (hi : i < 2147483648) : (15 : Int32) < nI i := i_lt (a := 15) h hi
theorem ngt15 {i : Nat} (h : i ≤ 15) : ¬ (15 : Int32) < nI i := i_nlt (a := 15) h (by omega)
theorem lt15 {i : Nat} (h : i < 15) : nI i < (15 : Int32) := i_lt (b := 15) h (by omega)
theorem nlt15 {i : Nat} (h : 15 ≤ i) (hi : i < 2147483648) : ¬ nI i < (15 : Int32) := i_nlt (b := 15) h hi
theorem ne15 {i : Nat} (h : i ≠ 15) (hi : i < 2147483648) : ¬ nI i = (15 : Int32) := i_ne (b := 15) hi (by omega) h
theorem ge20 {i : Nat} (h : 20 ≤ i) (hi : i < 2147483648) : (20 : Int32) ≤ nI i := i_le (a := 20) h hi
theorem nge20 {i : Nat} (h : i < 20) : ¬ (20 : Int32) ≤ nI i := i_nle (a := 20) h (by omega)
theorem le20 {i : Nat} (h : i ≤ 20) : nI i ≤ (20 : Int32) := i_le (b := 20) h (by omega)
theorem nle20 {i : Nat} (h : 20 < i) (hi : i < 2147483648) : ¬ nI i ≤ (20 : Int32) := i_nle (b := 20) h hi
theorem gt20 {i : Nat} (h : 20 < i) (hi : i < 2147483648) : (20 : Int32) < nI i := i_lt (a := 20) h hi
theorem ngt20 {i : Nat} (h : i ≤ 20) : ¬ (20 : Int32) < nI i := i_nlt (a := 20) h (by omega)
theorem lt20 {i : Nat} (h : i < 20) : nI i < (20 : Int32) := i_lt (b := 20) h (by omega)
theorem nlt20 {i : Nat} (h : 20 ≤ i) (hi : i < 2147483648) : ¬ nI i < (20 : Int32) := i_nlt (b := 20) h hi
theorem ne20 {i : Nat} (h : i ≠ 20) (hi : i < 2147483648) : ¬ nI i = (20 : Int32) := i_ne (b := 20) hi (by omega) h
theorem ge32 {i : Nat} (h : 32 ≤ i) (hi : i < 2147483648) : (32 : Int32) ≤ nI i := i_le (a := 32) h hi
theorem nge32 {i : Nat} (h : i < 32) : ¬ (32 : Int32) ≤ nI i := i_nle (a := 32) h (by omega)
theorem le32 {i : Nat} (h : i ≤ 32) : nI i ≤ (32 : Int32) := i_le (b := 32) h (by omega)
theorem nle32 {i : Nat} (h : 32 < i) (hi : i < 2147483648) : ¬ nI i ≤ (32 : Int32) := i_nle (b := 32) h hi
theorem gt32 {i : Nat} (h : 32 < i) (hi : i < 2147483648) : (32 : Int32) < nI i := i_lt (a := 32) h hi
theorem ngt32 {i : Nat} (h : i ≤ 32) : ¬ (32 : Int32) < nI i := i_nlt (a := 32) h (by omega)
theorem lt32 {i : Nat} (h : i < 32) : nI i < (32 : Int32) := i_lt (b := 32) h (by omega)
theorem nlt32 {i : Nat} (h : 32 ≤ i) (hi : i < 2147483648) : ¬ nI i < (32 : Int32) := i_nlt (b := 32) h hi
theorem ne32 {i : Nat} (h : i ≠ 32) (hi : i < 2147483648) : ¬ nI i = (32 : Int32) := i_ne (b := 32) hi (by omega) h
theorem ge40 {i : Nat} (h : 40 ≤ i) (hi : i < 2147483648) : (40 : Int32) ≤ nI i := i_le (a := 40) h hi
theorem nge40 {i : Nat} (h : i < 40) : ¬ (40 : Int32) ≤ nI i := i_nle (a := 40) h (by omega)
theorem le40 {i : Nat} (h : i ≤ 40) : nI i ≤ (40 : Int32) := i_le (b := 40) h (by omega)
theorem nle40 {i : Nat} (h : 40 < i) (hi : i < 2147483648) : ¬ nI i ≤ (40 : Int32) := i_nle (b := 40) h hi
theorem gt40 {i : Nat} (h : 40 < i) (hi : i < 2147483648) : (40 : Int32) < nI i := i_lt (a := 40) h hi
theorem ngt40 {i : Nat} (h : i ≤ 40) : ¬ (40 : Int32) < nI i := i_nlt (a := 40) h (by omega)
theorem lt40 {i : Nat} (h : i < 40) : nI i < (40 : Int32) := i_lt (b := 40) h (by omega)
theorem nlt40 {i : Nat} (h : 40 ≤ i) (hi : i < 2147483648) : ¬ nI i < (40 : Int32) := i_nlt (b := 40) h hi
theorem ne40 {i : Nat} (h : i ≠ 40) (hi : i < 2147483648) : ¬ nI i = (40 : Int32) := i_ne (b := 40) hi (by omega) h
theorem ge44 {i : Nat} (h : 44 ≤ i) (hi : i < 2147483648) : (44 : Int32) ≤ nI i := i_le (a := 44) h hi
theorem nge44 {i : Nat} (h : i < 44) : ¬ (44 : Int32) ≤ nI i := i_nle (a := 44) h (by omega)
theorem le44 {i : Nat} (h : i ≤ 44) : nI i ≤ (44 : Int32) := i_le (b := 44) h (by omega)
theorem nle44 {i : Nat} (h : 44 < i) (hi : i < 2147483648) : ¬ nI i ≤ (44 : Int32) := i_nle (b := 44) h hi
theorem gt44 {i : Nat} (h : 44 < i) (hi : i < 2147483648) : (44 : Int32) < nI i := i_lt (a := 44) h hi
theorem ngt44 {i : Nat} (h : i ≤ 44) : ¬ (44 : Int32) < nI i := i_nlt (a := 44) h (by omega)
theorem lt44 {i : Nat} (h : i < 44) : nI i < (44 : Int32) := i_lt (b := 44) h (by omega)
theorem nlt44 {i : Nat} (h : 44 ≤ i) (hi : i < 2147483648) : ¬ nI i < (44 : Int32) := i_nlt (b := 44) h hi
theorem ne44 {i : Nat} (h : i ≠ 44) (hi : i < 2147483648) : ¬ nI i = (44 : Int32) := i_ne (b := 44) hi (by omega) h
theorem ge48 {i : Nat} (h : 48 ≤ i) (hi : i < 2147483648) : (48 : Int32) ≤ nI i := i_le (a := 48) h hi
theorem nge48 {i : Nat} (h : i < 48) : ¬ (48 : Int32) ≤ nI i := i_nle (a := 48) h (by omega)
theorem le48 {i : Nat} (h : i ≤ 48) : nI i ≤ (48 : Int32) := i_le (b := 48) h (by omega)
theorem nle48 {i : Nat} (h : 48 < i) (hi : i < 2147483648) : ¬ nI i ≤ (48 : Int32) := i_nle (b := 48) h hi
theorem gt48 {i : Nat} (h : 48 < i) (hi : i < 2147483648) : (48 : Int32) < nI i := i_lt (a := 48) h hi
theorem ngt48 {i : Nat} (h : i ≤ 48) : ¬ (48 : Int32) < nI i := i_nlt (a := 48) h (by omega)
theorem lt48 {i : Nat} (h : i < 48) : nI i < (48 : Int32) := i_lt (b := 48) h (by omega)
theorem nlt48 {i : Nat} (h : 48 ≤ i) (hi : i < 2147483648) : ¬ nI i < (48 : Int32) := i_nlt (b := 48) h hi
theorem ne48 {i : Nat} (h : i ≠ 48) (hi : i < 2147483648) : ¬ nI i = (48 : Int32) := i_ne (b := 48) hi (by omega) h
theorem ge57 {i : Nat} (h : 57 ≤ i) (hi : i < 2147483648) : (57 : Int32) ≤ nI i := i_le (a := 57) h hi
theorem nge57 {i : Nat} (h : i < 57) : ¬ (57 : Int32) ≤ nI i := i_nle (a := 57) h (by omega)
theorem le57 {i : Nat} (h : i ≤ 57) : nI i ≤ (57 : Int32) := i_le (b := 57) h (by omega)
theorem nle57 {i : Nat} (h : 57 < i) (hi : i < 2147483648) : ¬ nI i ≤ (57 : Int32) := i_nle (b := 57) h hi
theorem gt57 {i : Nat} (h : 57 < i) (hi : i < 2147483648) : (57 : Int32) < nI i := i_lt (a := 57) h hi
theorem ngt57 {i : Nat} (h : i ≤ 57) : ¬ (57 : Int32) < nI i := i_nlt (a := 57) h (by omega)
theorem lt57 {i : Nat} (h : i < 57) : nI i < (57 : Int32) := i_lt (b := 57) h (by omega)
theorem nlt57 {i : Nat} (h : 57 ≤ i) (hi : i < 2147483648) : ¬ nI i < (57 : Int32) := i_nlt (b := 57) h hi
theorem ne57 {i : Nat} (h : i ≠ 57) (hi : i < 2147483648) : ¬ nI i = (57 : Int32) := i_ne (b := 57) hi (by omega) h
theorem ge59 {i : Nat} (h : 59 ≤ i) (hi : i < 2147483648) : (59 : Int32) ≤ nI i := i_le (a := 59) h hi
theorem nge59 {i : Nat} (h : i < 59) : ¬ (59 : Int32) ≤ nI i := i_nle (a := 59) h (by omega)
theorem le59 {i : Nat} (h : i ≤ 59) : nI i ≤ (59 : Int32) := i_le (b := 59) h (by omega)
theorem nle59 {i : Nat} (h : 59 < i) (hi : i < 2147483648) : ¬ nI i ≤ (59 : Int32) := i_nle (b := 59) h hi
theorem gt59 {i : Nat} (h : 59 < i) (hi : i < 2147483648) : (59 : Int32) < nI i := i_lt (a := 59) h hi
theorem ngt59 {i : Nat} (h : i ≤ 59) : ¬ (59 : Int32) < nI i := i_nlt (a := 59) h (by omega)
theorem lt59 {i : Nat} (h : i < 59) : nI i < (59 : Int32) := i_lt (b := 59) h (by omega)
theorem nlt59 {i : Nat} (h : 59 ≤ i) (hi : i < 2147483648) : ¬ nI i < (59 : Int32) := i_nlt (b := 59) h hi
theorem ne59 {i : Nat} (h : i ≠ 59) (hi : i < 2147483648) : ¬ nI i = (59 : Int32) := i_ne (b := 59) hi (by omega) h
theorem ge99 {i : Nat} (h : 99 ≤ i) (hi : i < 2147483648) : (99 : Int32) ≤ nI i := i_le (a := 99) h hi
theorem nge99 {i : Nat} (h : i < 99) : ¬ (99 : Int32) ≤ nI i := i_nle (a := 99) h (by omega)
theorem le99 {i : Nat} (h : i ≤ 99) : nI i ≤ (99 : Int32) := i_le (b := 99) h (by omega)
theorem nle99 {i : Nat} (h : 99 < i) (hi : i < 2147483648) : ¬ nI i ≤ (99 : Int32) := i_nle (b := 99) h hi
theorem gt99 {i : Nat} (h : 99 < i) (hi : i < 2147483648) : (99 : Int32) < nI i := i_lt (a := 99) h hi
theorem ngt99 {i : Nat} (h : i ≤ 99) : ¬ (99 : Int32) < nI i := i_nlt (a := 99) h (by omega)
theorem lt99 {i : Nat} (h : i < 99) : nI i < (99 : Int32) := i_lt (b := 99) h (by omega)
theorem nlt99 {i : Nat} (h : 99 ≤ i) (hi : i < 2147483648) : ¬ nI i < (99 : Int32) := i_nlt (b := 99) h hi
theorem ne99 {i : Nat} (h : i ≠ 99) (hi : i < 2147483648) : ¬ nI i = (99 : Int32) := i_ne (b := 99) hi (by omega) h
theorem ge100 {i : Nat} (h : 100 ≤ i) (hi : i < 2147483648) : (100 : Int32) ≤ nI i := i_le (a := 100) h hi
theorem nge100 {i : Nat} (h : i < 100) : ¬ (100 : Int32) ≤ nI i := i_nle (a := 100) h (by omega)
theorem le100 {i : Nat} (h : i ≤ 100) : nI i ≤ (100 : Int32) := i_le (b := 100) h (by omega)
theorem nle100 {i : Nat} (h : 100 < i) (hi : i < 2147483648) : ¬ nI i ≤ (100 : Int32) := i_nle (b := 100) h hi
theorem gt100 {i : Nat} (h : 100 < i) (hi : i < 2147483648) : (100 : Int32) < nI i := i_lt (a := 100) h hi
theorem ngt100 {i : Nat} (h : i ≤ 100) : ¬ (100 : Int32) < nI i := i_nlt (a := 100) h (by omega)
theorem lt100 {i : Nat} (h : i < 100) : nI i < (100 : Int32) := i_lt (b := 100) h (by omega)
theorem nlt100 {i : Nat} (h : 100 ≤ i) (hi : i < 2147483648) : ¬ nI i < (100 : Int32) := i_nlt (b := 100) h hi
theorem ne100 {i : Nat} (h : i ≠ 100) (hi : i < 2147483648) : ¬ nI i = (100 : Int32) := i_ne (b := 100) hi (by omega) h
theorem ge105 {i : Nat} (h : 105 ≤ i) (hi : i < 2147483648) : (105 : Int32) ≤ nI i := i_le (a := 105) h hi
theorem nge105 {i : Nat} (h : i < 105) : ¬ (105 : Int32) ≤ nI i := i_nle (a := 105) h (by omega)
theorem le105 {i : Nat} (h : i ≤ 105) : nI i ≤ (105 : Int32) := i_le (b := 105) h (by omega)
theorem nle105 {i : Nat} (h : 105 < i) (hi : i < 2147483648) : ¬ nI i ≤ (105 : Int32) := i_nle (b := 105) h hi
theorem gt105 {i : Nat} (h : 105 < i) (hi : i < 2147483648) : (105 : Int32) < nI i := i_lt (a := 105) h hi
theorem ngt105 {i : Nat} (h : i ≤ 105) : ¬ (105 : Int32) < nI i := i_nlt (a := 105) h (by omega)
theorem lt105 {i : Nat} (h : i < 105) : nI i < (105 : Int32) := i_lt (b := 105) h (by omega)
theorem nlt105 {i : Nat} (h : 105 ≤ i) (hi : i < 2147483648) : ¬ nI i < (105 : Int32) := i_nlt (b := 105) h hi
theorem ne105 {i : Nat} (h : i ≠ 105) (hi : i < 2147483648) : ¬ nI i = (105 : Int32) := i_ne (b := 105) hi (by omega) h
theorem ge107 {i : Nat} (h : 107 ≤ i) (hi : i < 2147483648) : (107 : Int32) ≤ nI i := i_le (a := 107) h hi
theorem nge107 {i : Nat} (h : i < 107) : ¬ (107 : Int32) ≤ nI i := i_nle (a := 107) h (by omega)
theorem le107 {i : Nat} (h : i ≤ 107) : nI i ≤ (107 : Int32) := i_le (b := 107) h (by omega)
theorem nle107 {i : Nat} (h : 107 < i) (hi : i < 2147483648) : ¬ nI i ≤ (107 : Int32) := i_nle (b := 107) h hi
theorem gt107 {i : Nat} (h : 107 < i) (hi : i < 2147483648) : (107 : Int32) < nI i := i_lt (a := 107) h hi
theorem ngt107 {i : Nat} (h : i ≤ 107) : ¬ (107 : Int32) < nI i := i_nlt (a := 107) h (by omega)
theorem lt107 {i : Nat} (h : i < 107) : nI i < (107 : Int32) := i_lt (b := 107) h (by omega)
theorem nlt107 {i : Nat} (h : 107 ≤ i) (hi : i < 2147483648) : ¬ nI i < (107 : Int32) := i_nlt (b := 107) h hi
theorem ne107 {i : Nat} (h : i ≠ 107) (hi : i < 2147483648) : ¬ nI i = (107 : Int32) := i_ne (b := 107) hi (by omega) h
theorem ge115 {i : Nat} (h : 115 ≤ i) (hi : i < 2147483648) : (115 : Int32) ≤ nI i := i_le (a := 115) h hi
theorem nge115 {i : Nat} (h : i < 115) : ¬ (115 : Int32) ≤ nI i := i_nle (a := 115) h (by omega)
theorem le115 {i : Nat} (h : i ≤ 115) : nI i ≤ (115 : Int32) := i_le (b := 115) h (by omega)
theorem nle115 {i : Nat} (h : 115 < i) (hi : i < 2147483648) : ¬ nI i ≤ (115 : Int32) := i_nle (b := 115) h hi
theorem gt115 {i : Nat} (h : 115 < i) (hi : i < 2147483648) : (115 : Int32) < nI i := i_lt (a := 115) h hi
theorem ngt115 {i : Nat} (h : i ≤ 115) : ¬ (115 : Int32) < nI i := i_nlt (a := 115) h (by omega)
theorem lt115 {i : Nat} (h : i < 115) : nI i < (115 : Int32) := i_lt (b := 115) h (by omega)
theorem nlt115 {i : Nat} (h : 115 ≤ i) (hi : i < 2147483648) : ¬ nI i < (115 : Int32) := i_nlt (b := 115) h hi
theorem ne115 {i : Nat} (h : i ≠ 115) (hi : i < 2147483648) : ¬ nI i = (115 : Int32) := i_ne (b := 115) hi (by omega) h
theorem ge128 {i : Nat} (h : 128 ≤ i) (hi : i < 2147483648) : (128 : Int32) ≤ nI i := i_le (a := 128) h hi
theorem nge128 {i : Nat} (h : i < 128) : ¬ (128 : Int32) ≤ nI i := i_nle (a := 128) h (by omega)
theorem le128 {i : Nat} (h : i ≤ 128) : nI i ≤ (128 : Int32) := i_le (b := 128) h (by omega)
theorem nle128 {i : Nat} (h : 128 < i) (hi : i < 2147483648) : ¬ nI i ≤ (128 : Int32) := i_nle (b := 128) h hi
theorem gt128 {i : Nat} (h : 128 < i) (hi : i < 2147483648) : (128 : Int32) < nI i := i_lt (a := 128) h hi
theorem ngt128 {i : Nat} (h : i ≤ 128) : ¬ (128 : Int32) < nI i := i_nlt (a := 128) h (by omega)
theorem lt128 {i : Nat} (h : i < 128) : nI i < (128 : Int32) := i_lt (b := 128) h (by omega)
theorem nlt128 {i : Nat} (h : 128 ≤ i) (hi : i < 2147483648) : ¬ nI i < (128 : Int32) := i_nlt (b := 128) h hi
theorem ne128 {i : Nat} (h : i ≠ 128) (hi : i < 2147483648) : ¬ nI i = (128 : Int32) := i_ne (b := 128) hi (by omega) h
theorem ge190 {i : Nat} (h : 190 ≤ i) (hi : i < 2147483648) : (190 : Int32) ≤ nI i := i_le (a := 190) h hi
theorem nge190 {i : Nat} (h : i < 190) : ¬ (190 : Int32) ≤ nI i := i_nle (a := 190) h (by omega)
theorem le190 {i : Nat} (h : i ≤ 190) : nI i ≤ (190 : Int32) := i_le (b := 190) h (by omega)
theorem nle190 {i : Nat} (h : 190 < i) (hi : i < 2147483648) : ¬ nI i ≤ (190 : Int32) := i_nle (b := 190) h hi
theorem gt190 {i : Nat} (h : 190 < i) (hi : i < 2147483648) : (190 : Int32) < nI i := i_lt (a := 190) h hi
theorem ngt190 {i : Nat} (h : i ≤ 190) : ¬ (190 : Int32) < nI i := i_nlt (a := 190) h (by omega)
theorem lt190 {i : Nat} (h : i < 190) : nI i < (190 : Int32) := i_lt (b := 190) h (by omega)
theorem nlt190 {i : Nat} (h : 190 ≤ i) (hi : i < 2147483648) : ¬ nI i < (190 : Int32) := i_nlt (b := 190) h hi
theorem ne190 {i : Nat} (h : i ≠ 190) (hi : i < 2147483648) : ¬ nI i = (190 : Int32) := i_ne (b := 190) hi (by omega) h
theorem ge200 {i : Nat} (h : 200 ≤ i) (hi : i < 2147483648) : (200 : Int32) ≤ nI i := i_le (a := 200) h hi
theorem nge200 {i : Nat} (h : i < 200) : ¬ (200 : Int32) ≤ nI i := i_nle (a := 200) h (by omega)
theorem le200 {i : Nat} (h : i ≤ 200) : nI i ≤ (200 : Int32) := i_le (b := 200) h (by omega)
theorem nle200 {i : Nat} (h : 200 < i) (hi : i < 2147483648) : ¬ nI i ≤ (200 : Int32) := i_nle (b := 200) h hi
theorem gt200 {i : Nat} (h : 200 < i) (hi : i < 2147483648) : (200 : Int32) < nI i := i_lt (a := 200) h hi
theorem ngt200 {i : Nat} (h : i ≤ 200) : ¬ (200 : Int32) < nI i := i_nlt (a := 200) h (by omega)
theorem lt200 {i : Nat} (h : i < 200) : nI i < (200 : Int32) := i_lt (b := 200) h (by omega)
theorem nlt200 {i : Nat} (h : 200 ≤ i) (hi : i < 2147483648) : ¬ nI i < (200 : Int32) := i_nlt (b := 200) h hi
theorem ne200 {i : Nat} (h : i ≠ 200) (hi : i < 2147483648) : ¬ nI i = (200 : Int32) := i_ne (b := 200) hi (by omega) h
theorem ge240 {i : Nat} (h : 240 ≤ i) (hi : i < 2147483648) : (240 : Int32) ≤ nI i := i_le (a := 240) h hi
theorem nge240 {i : Nat} (h : i < 240) : ¬ (240 : Int32) ≤ nI i := i_nle (a := 240) h (by omega)
theorem le240 {i : Nat} (h : i ≤ 240) : nI i ≤ (240 : Int32) := i_le (b := 240) h (by omega)
theorem nle240 {i : Nat} (h : 240 < i) (hi : i < 2147483648) : ¬ nI i ≤ (240 : Int32) := i_nle (b := 240) h hi
theorem gt240 {i : Nat} (h : 240 < i) (hi : i < 2147483648) : (240 : Int32) < nI i := i_lt (a := 240) h hi
theorem ngt240 {i : Nat} (h : i ≤ 240) : ¬ (240 : Int32) < nI i := i_nlt (a := 240) h (by omega)
theorem lt240 {i : Nat} (h : i < 240) : nI i < (240 : Int32) := i_lt (b := 240) h (by omega)
theorem nlt240 {i : Nat} (h : 240 ≤ i) (hi : i < 2147483648) : ¬ nI i < (240 : Int32) := i_nlt (b := 240) h hi
theorem ne240 {i : Nat} (h : i ≠ 240) (hi : i < 2147483648) : ¬ nI i = (240 : Int32) := i_ne (b := 240) hi (by omega) h
theorem ge255 {i : Nat} (h : 255 ≤ i) (hi : i < 2147483648) : (255 : Int32) ≤ nI i := i_le (a := 255) h hi
theorem nge255 {i : Nat} (h : i < 255) : ¬ (255 : Int32) ≤ nI i := i_nle (a := 255) h (by omega)
theorem le255 {i : Nat} (h : i ≤ 255) : nI i ≤ (255 : Int32) := i_le (b := 255) h (by omega)
theorem nle255 {i : Nat} (h : 255 < i) (hi : i < 2147483648) : ¬ nI i ≤ (255 : Int32) := i_nle (b := 255) h hi
theorem gt255 {i : Nat} (h : 255 < i) (hi : i < 2147483648) : (255 : Int32) < nI i := i_lt (a := 255) h hi
theorem ngt255 {i : Nat} (h : i ≤ 255) : ¬ (255 : Int32) < nI i := i_nlt (a := 255) h (by omega)
theorem lt255 {i : Nat} (h : i < 255) : nI i < (255 : Int32) := i_lt (b := 255) h (by omega)
theorem nlt255 {i : Nat} (h : 255 ≤ i) (hi : i < 2147483648) : ¬ nI i < (255 : Int32) := i_nlt (b := 255) h hi
theorem ne255 {i : Nat} (h : i ≠ 255) (hi : i < 2147483648) : ¬ nI i = (255 : Int32) := i_ne (b := 255) hi (by omega) h

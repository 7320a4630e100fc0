def anyN (p : Nat → Bool) : Nat → Bool
  | 0 => false
  | n + 1 => anyN p n || p n
theorem anyN_iff {p : Nat → Bool} : ∀ {n : Nat}, anyN p n = true ↔ ∃ i, i < n ∧ p i = true
  | 0 => ⟨fun h => absurd (show false = true from h) (by decide), fun ⟨i, h, _⟩ => absurd h (by omega)⟩
  | n + 1 => by
    rw [anyN, Bool.or_eq_true, anyN_iff]
    constructor
    · rintro (⟨i, h1, h2⟩ | h)
      · exact ⟨i, by omega, h2⟩
      · exact ⟨n, by omega, h⟩
    · rintro ⟨i, h1, h2⟩
      by_cases e : i = n
      · subst e; exact Or.inr h2
      · exact Or.inl ⟨i, by omega, h2⟩
theorem anyN_no {p : Nat → Bool} {n : Nat} (h : ∀ i, i < n → p i = false) : anyN p n = false := by
  cases e : anyN p n with
  | false => rfl
  | true =>
    obtain ⟨i, h1, h2⟩ := anyN_iff.mp e
    rw [h i h1] at h2
    cases h2
theorem anyN_one {p : Nat → Bool} {n k : Nat} (hk : k < n) (h : ∀ i, i < n → i ≠ k → p i = false) : anyN p n = p k := by
  cases e : p k with
  | true => exact anyN_iff.mpr ⟨k, hk, e⟩
  | false =>
    refine anyN_no (fun i hi => ?_)
    by_cases q : i = k
    · subst q; exact e
    · exact h i hi q
theorem anyN_congr {p q : Nat → Bool} : ∀ {n : Nat}, (∀ i, i < n → p i = q i) → anyN p n = anyN q n
  | 0, _ => rfl
  | n + 1, h => by rw [anyN, anyN, anyN_congr (fun i hi => h i (by omega)), h n (by omega)]
def orN (a : Int32) (g : Nat → Int32) : Nat → Int32
  | 0 => a
  | n + 1 => orN a g n ||| g n
theorem bt_orN (a : Int32) (g : Nat → Int32) (i : Nat) : ∀ n, bt (orN a g n) i = (bt a i || anyN (fun k => bt (g k) i) n)
  | 0 => by rw [orN, anyN, Bool.or_false]
  | n + 1 => by rw [orN, b_or, bt_orN a g i n, anyN, Bool.or_assoc]
def zE (jar : Nat → Nat → Bool) (lo : Nat → Int32) (q : Nat → Bool) (s : Nat) : Int32 := sumN (fun t => if (q t && jar s t) = true then lo t else 0) 8
theorem zE_congr {jar : Nat → Nat → Bool} {lo : Nat → Int32} {q q' : Nat → Bool} {s : Nat} (h : ∀ t, t < 8 → q t = q' t) : zE jar lo q s = zE jar lo q' s :=
  sumN_congr (fun t ht => by rw [h t ht])
def stK (jar : Nat → Nat → Bool) (lo de : Nat → Int32) (live : Nat → Nat → Bool) (cr aw : Nat → Bool) (h : Nat) : Nat → Bool := fun s => aw s || (cr s && (!aw s && !decide (zE jar lo (fun t => cr t && (!aw t && live h t)) s ≤ de s)))
def moK (jar : Nat → Nat → Bool) (lo de : Nat → Int32) (live : Nat → Nat → Bool) (cr : Nat → Bool) : Nat → (Nat → Bool) → Nat → (Nat → Bool)
  | 0, aw, _ => aw
  | m + 1, aw, h => moK jar lo de live cr m (stK jar lo de live cr aw h) (h + 1)
def stG (jar : Nat → Nat → Bool) (lo de : Nat → Int32) (live : Nat → Nat → Bool) (inn : Nat → Nat → Bool) (aw : Nat → Bool) (h : Nat) : Nat → Bool := fun s => aw s || anyN (fun k => inn k s && (!aw s && !decide (zE jar lo (fun t => inn k t && (!aw t && live h t)) s ≤ de s))) 4
def moG (jar : Nat → Nat → Bool) (lo de : Nat → Int32) (live : Nat → Nat → Bool) (inn : Nat → Nat → Bool) : Nat → (Nat → Bool) → Nat → (Nat → Bool)
  | 0, aw, _ => aw
  | m + 1, aw, h => moG jar lo de live inn m (stG jar lo de live inn aw h) (h + 1)
section MO
variable {jar : Nat → Nat → Bool} {lo de : Nat → Int32} {live : Nat → Nat → Bool} {inn : Nat → Nat → Bool}
theorem stG_le {aw : Nat → Bool} {h s : Nat} (q : aw s = true) : stG jar lo de live inn aw h s = true := by
  rw [stG, q]; rfl
theorem moG_le : ∀ (m : Nat) {aw : Nat → Bool} {h s : Nat}, aw s = true → moG jar lo de live inn m aw h s = true
  | 0, _, _, _, q => q
  | m + 1, _, _, _, q => moG_le m (stG_le q)
theorem moK_le {cr : Nat → Bool} : ∀ (m : Nat) {aw : Nat → Bool} {h s : Nat}, aw s = true → moK jar lo de live cr m aw h s = true
  | 0, _, _, _, q => q
  | m + 1, aw, h, s, q => moK_le m (by rw [stK, q]; rfl)
theorem moK_out {cr : Nat → Bool} : ∀ (m : Nat) {aw : Nat → Bool} {h s : Nat}, cr s = false → moK jar lo de live cr m aw h s = aw s
  | 0, _, _, _, _ => rfl
  | m + 1, aw, h, s, q => by rw [moK, moK_out m q, stK, q, Bool.false_and, Bool.or_false]
theorem moG_out : ∀ (m : Nat) {aw : Nat → Bool} {h s : Nat}, (∀ k, k < 4 → inn k s = false) → moG jar lo de live inn m aw h s = aw s
  | 0, _, _, _, _ => rfl
  | m + 1, aw, h, s, q => by rw [moG, moG_out m q, stG, anyN_no (fun k hk => by rw [q k hk, Bool.false_and]), Bool.or_false]
theorem moK_in {k : Nat} (hk : k < 4) (hd : ∀ j s, j < 4 → inn k s = true → inn j s = true → j = k) : ∀ (m : Nat) {a b : Nat → Bool} {h : Nat}, (∀ s, inn k s = true → a s = b s) → ∀ s, inn k s = true → moK jar lo de live (inn k) m a h s = moG jar lo de live inn m b h s
  | 0, a, b, h, e, s, hs => e s hs
  | m + 1, a, b, h, e, s, hs => by
    rw [moK, moG]
    refine moK_in hk hd m (fun t ht => ?_) s hs
    rw [stK, stG, e t ht, anyN_one hk (fun j hj q => by
      cases c : inn j t with
      | false => rw [Bool.false_and]
      | true => exact absurd (hd j t hj ht c) q)]
    rw [zE_congr (q' := fun t => inn k t && (!b t && live h t)) (fun u _ => by
      cases c : inn k u with
      | false => rfl
      | true => show (true && (!a u && live h u)) = (true && (!b u && live h u)); rw [e u c])]
theorem moG_eq (hd : ∀ k j s, k < 4 → j < 4 → inn k s = true → inn j s = true → j = k) (m : Nat) (aw : Nat → Bool) (h s : Nat) : moG jar lo de live inn m aw h s = (aw s || anyN (fun k => moK jar lo de live (inn k) m aw h s) 4) := by
  by_cases q : ∃ k, k < 4 ∧ inn k s = true
  · obtain ⟨k, hk, hs⟩ := q
    rw [← moK_in hk (fun j s hj => hd k j s hk hj) m (a := aw) (fun _ _ => rfl) s hs]
    cases e : aw s with
    | true => rw [moK_le m e]; rfl
    | false =>
      rw [Bool.false_or]
      refine (anyN_one (p := fun k => moK jar lo de live (inn k) m aw h s) hk (fun j hj qj => ?_)).symm
      show moK jar lo de live (inn j) m aw h s = false
      rw [moK_out m ?_, e]
      cases c : inn j s with
      | false => rfl
      | true => exact absurd (hd k j s hk hj hs c) qj
  · have q2 : ∀ k, k < 4 → inn k s = false := fun k hk => by
      cases c : inn k s with
      | false => rfl
      | true => exact absurd ⟨k, hk, c⟩ q
    rw [moG_out m q2]
    cases e : aw s with
    | true => rfl
    | false =>
      rw [Bool.false_or]
      exact (anyN_no (fun k hk => by rw [moK_out m (q2 k hk), e])).symm
end MO

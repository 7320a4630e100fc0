/-! a clause and the whole text, both -/
def RdI (n c cp : Nat) (lt : Bool) (w : Int32) (pi lo de fr to be : Nat → Nat) (x10 x15 x16 x17 x18 : Int32) (f12 f13 f14 f15 f16 f17 f18 : Nat → Int32) (m8 m9 m10 m11 : Int32) (g2 g3 g4 : Nat → Int32) : Prop :=
  c ≤ 4 ∧ cp ≤ 4 ∧ (c = 0 → n = 0) ∧ MOk n pi lo de fr to g3 ∧ TrOk n pi lo de fr to f13 f14 f15 f16 f17 ∧ x15 = nI c ∧ x16 = nI n ∧ x17 = nI cp ∧ m8 = nI c ∧ m9 = nI n ∧ m10 = nI cp ∧ x10 = b2i lt ∧ x18 = w ∧ ((lt = false ∧ w = 57 ∧ m11 = -1) ∨ (lt = true ∧ m11 = w ∧ ∀ i, bt w i = true → i < 7)) ∧ BeR c be f12 g2 ∧ MaI n f18 g4 ∧ ∀ s, n ≤ s → s < 8 → f18 s = -1
def ClB (len : Nat) (o : Int32 × Int32 × Int32 × Int32 × Int32 × Int32 × Int32 × Int32 × Int32 × (Nat → Int32) × (Nat → Int32) × (Nat → Int32) × (Nat → Int32) × (Nat → Int32) × (Nat → Int32) × (Nat → Int32)) (o' : Int32 × Int32 × Int32 × Int32 × Int32 × Int32 × Int32 × Int32 × Int32 × Int32 × Int32 × Int32 × (Nat → Int32) × (Nat → Int32) × (Nat → Int32)) : Prop := o'.1 = 0 ∧ ∃ f x p' : Nat, (1 ≤ f ∧ f ≤ 4) ∧ p' ≤ len ∧ o.1 = nI x ∧ o.2.1 = nI f ∧ o.2.2.1 = nI p' ∧ o'.2.2.2.2.2.2.1 = nI x ∧ o'.2.2.2.2.2.2.2.1 = nI f
def ClG (len p : Nat) (fp : Int32) (o : Int32 × Int32 × Int32 × Int32 × Int32 × Int32 × Int32 × Int32 × Int32 × (Nat → Int32) × (Nat → Int32) × (Nat → Int32) × (Nat → Int32) × (Nat → Int32) × (Nat → Int32) × (Nat → Int32)) (o' : Int32 × Int32 × Int32 × Int32 × Int32 × Int32 × Int32 × Int32 × Int32 × Int32 × Int32 × Int32 × (Nat → Int32) × (Nat → Int32) × (Nat → Int32)) : Prop := o'.1 = 1 ∧ o.1 = fp ∧ o.2.1 = 0 ∧ ∃ p' : Nat, p < p' ∧ p' ≤ len ∧ o.2.2.1 = nI p' ∧ o'.2.1 = nI p' ∧ ∃ (n c cp : Nat) (lt : Bool) (w : Int32) (pi lo de fr to be : Nat → Nat), RdI n c cp lt w pi lo de fr to be o.2.2.2.2.1 o.2.2.2.2.2.1 o.2.2.2.2.2.2.1 o.2.2.2.2.2.2.2.1 o.2.2.2.2.2.2.2.2.1 o.2.2.2.2.2.2.2.2.2.1 o.2.2.2.2.2.2.2.2.2.2.1 o.2.2.2.2.2.2.2.2.2.2.2.1 o.2.2.2.2.2.2.2.2.2.2.2.2.1 o.2.2.2.2.2.2.2.2.2.2.2.2.2.1 o.2.2.2.2.2.2.2.2.2.2.2.2.2.2.1 o.2.2.2.2.2.2.2.2.2.2.2.2.2.2.2 o'.2.2.2.2.2.2.2.2.1 o'.2.2.2.2.2.2.2.2.2.1 o'.2.2.2.2.2.2.2.2.2.2.1 o'.2.2.2.2.2.2.2.2.2.2.2.1 o'.2.2.2.2.2.2.2.2.2.2.2.2.1 o'.2.2.2.2.2.2.2.2.2.2.2.2.2.1 o'.2.2.2.2.2.2.2.2.2.2.2.2.2.2
theorem fow_k (lt cr sl cp : Int32) : F_X6_faultOfWord lt cr sl cp 107 = if cr = 0 then some 0 else some 3 := by
  unfold F_X6_faultOfWord B_X6_faultOfWord_12
  by_cases h : cr = 0
  · rw [if_pos h, if_pos h, if_neg (by decide), if_neg (by decide), if_pos rfl, if_neg (by decide)]
  · rw [if_neg h, if_neg h, if_neg (by decide), if_neg (by decide), if_pos rfl, if_pos rfl]
theorem fow_s (lt cr sl cp : Int32) : F_X6_faultOfWord lt cr sl cp 115 = if cr = 0 then some 1 else if sl < 8 then some 0 else some 3 := by
  unfold F_X6_faultOfWord B_X6_faultOfWord_12
  by_cases h : cr = 0
  · rw [if_pos h, if_pos h, if_neg (by decide), if_neg (by decide), if_neg (by decide), if_pos rfl, if_neg (by decide)]
  · rw [if_neg h, if_neg h, if_neg (by decide), if_neg (by decide), if_neg (by decide), if_pos rfl, if_pos rfl]
theorem fow_i (lt cr sl cp : Int32) : F_X6_faultOfWord lt cr sl cp 105 = if cr = 0 then some 1 else if lt = 0 then some 0 else some 3 := by
  unfold F_X6_faultOfWord B_X6_faultOfWord_12
  by_cases h : cr = 0
  · rw [if_pos h, if_pos h, if_neg (by decide), if_pos rfl, if_neg (by decide)]
  · rw [if_neg h, if_neg h, if_neg (by decide), if_pos rfl, if_pos rfl]
theorem fow_c (lt cr sl cp : Int32) : F_X6_faultOfWord lt cr sl cp 99 = if cr = 0 then some 1 else if cp < 4 then some 0 else some 3 := by
  unfold F_X6_faultOfWord B_X6_faultOfWord_12
  by_cases h : cr = 0
  · rw [if_pos h, if_pos h, if_pos rfl, if_neg (by decide)]
  · rw [if_neg h, if_neg h, if_pos rfl, if_pos rfl]
theorem fow_o (lt cr sl cp : Int32) {y : Int32} (h1 : y ≠ 99) (h2 : y ≠ 105) (h3 : y ≠ 107) (h4 : y ≠ 115) : F_X6_faultOfWord lt cr sl cp y = some 1 := by
  unfold F_X6_faultOfWord B_X6_faultOfWord_12
  rw [if_neg h1, if_neg h2, if_neg h3, if_neg h4, if_neg h1, if_neg h2, if_neg h3, if_neg h4]
  by_cases h : cr = 0
  · rw [if_pos h]
  · rw [if_neg h]
section Clause
variable {len N : Nat} {T : Nat → Nat} {t1 t2 : Nat → Int32}
theorem cl_bad (X : TxT len T t1 t2) {p : Nat} (hp : p < len) (fp np x10 x15 x16 x17 x18 : Int32) (f12 f13 f14 f15 f16 f17 f18 : Nat → Int32) {f : Int32} (hf : f ≠ 0) (hw : F_X6_faultOfWord x10 x15 x16 x17 (nI (T p)) = some f) : F_X6_readClause N (nI len) fp 0 (nI p) np x10 t1 x15 x16 x17 x18 f12 f13 f14 f15 f16 f17 f18 = some (nI p, f, nI p, np, x10, x15, x16, x17, x18, f12, f13, f14, f15, f16, f17, f18) := by
  have hh : F_X6_letterHere (nI len) (nI p) t1 = some (nI (T p)) := by
    rcases v_here X (Nat.le_of_lt hp) with ⟨w, _⟩ | ⟨_, w⟩
    · omega
    · exact w
  unfold F_X6_readClause
  rw [bnd_of hh, bnd_of hw, if_neg hf, bnd_of (fail_0 _ _ _)]
theorem tk_dig {p : Nat} {tk pos : Int32} (X : TxT len T t1 t2) (hp : p < len) (ht : ((48 ≤ T p ∧ T p ≤ 57) ∧ tk = -1) ∨ (tk = nI (T p) ∧ pos = nI (p + 1))) {y : Nat} (hy : y < 256) (h : y < 48 ∨ 57 < y) : (T p = y → tk = nI y ∧ pos = nI (p + 1)) ∧ (T p ≠ y → tk ≠ nI y) := by
  have hb := (X.2 p hp).1
  rcases ht with ⟨h1, h2⟩ | ⟨h1, h2⟩
  · exact ⟨fun e => by omega, fun _ => by rw [h2]; exact i_m1' (by omega)⟩
  · exact ⟨fun e => ⟨by rw [h1, e], h2⟩, fun e => by rw [h1]; exact i_ne (by omega) (by omega) e⟩
theorem clause_both (hN : 70000 ≤ N) (X : TxT len T t1 t2) {p : Nat} (hp : p < len) (fp fa fi np nu fg : Int32) {pos tk : Int32} (ht : ((48 ≤ T p ∧ T p ≤ 57) ∧ tk = -1) ∨ (tk = nI (T p) ∧ pos = nI (p + 1))) {n c cp : Nat} {lt : Bool} {w : Int32} {pi lo de fr to be : Nat → Nat} {x10 x15 x16 x17 x18 : Int32} {f12 f13 f14 f15 f16 f17 f18 : Nat → Int32} {m8 m9 m10 m11 : Int32} {g2 g3 g4 : Nat → Int32} (Rd : RdI n c cp lt w pi lo de fr to be x10 x15 x16 x17 x18 f12 f13 f14 f15 f16 f17 f18 m8 m9 m10 m11 g2 g3 g4) :
    ∃ o o', F_X6_readClause N (nI len) fp 0 (nI p) np x10 t1 x15 x16 x17 x18 f12 f13 f14 f15 f16 f17 f18 = some o ∧ F_X9_isClause N (nI len) pos (nI p) tk nu fg fa fi m8 m9 m10 m11 t2 g2 g3 g4 = some o' ∧ (ClB len o o' ∨ ClG len p fp o o') := by
  obtain ⟨c4, cp4, c0, M, Tr, rfl, rfl, rfl, rfl, rfl, rfl, rfl, rfl, hl, hB, hM, hZ⟩ := Rd
  have h8 := M.1
  have hb := (X.2 p hp).1
  have hh : F_X6_letterHere (nI len) (nI p) t1 = some (nI (T p)) := by
    rcases v_here X (Nat.le_of_lt hp) with ⟨w, _⟩ | ⟨_, w⟩
    · omega
    · exact w
  have bad : ∀ (f : Nat) (Y : Int32 × Int32 × Int32 × Int32 × Int32 × Int32 × Int32 × Int32 × Int32 × Int32 × Int32 × Int32 × (Nat → Int32) × (Nat → Int32) × (Nat → Int32)), (1 ≤ f ∧ f ≤ 4) → F_X6_faultOfWord (b2i lt) (nI c) (nI n) (nI cp) (nI (T p)) = some (nI f) → F_X9_isClause N (nI len) pos (nI p) tk nu fg fa fi (nI c) (nI n) (nI cp) m11 t2 g2 g3 g4 = some Y → Y.1 = 0 → Y.2.2.2.2.2.2.1 = nI p → Y.2.2.2.2.2.2.2.1 = nI f →
      ∃ o o', F_X6_readClause N (nI len) fp 0 (nI p) np (b2i lt) t1 (nI c) (nI n) (nI cp) x18 f12 f13 f14 f15 f16 f17 f18 = some o ∧ F_X9_isClause N (nI len) pos (nI p) tk nu fg fa fi (nI c) (nI n) (nI cp) m11 t2 g2 g3 g4 = some o' ∧ (ClB len o o' ∨ ClG len p fp o o') := fun f Y hf hw hY y0 y6 y7 =>
    ⟨_, Y, cl_bad X hp fp np _ _ _ _ _ _ _ _ _ _ _ _ (fl_ne hf) hw, hY, Or.inl ⟨y0, f, p, p, hf, Nat.le_of_lt hp, rfl, rfl, rfl, y6, y7⟩⟩
  have t107 := tk_dig X hp ht (y := 107) (by omega) (by omega)
  have t115 := tk_dig X hp ht (y := 115) (by omega) (by omega)
  have t105 := tk_dig X hp ht (y := 105) (by omega) (by omega)
  have t99 := tk_dig X hp ht (y := 99) (by omega) (by omega)
  by_cases k1 : T p = 107
  · obtain ⟨e1, e2⟩ := t107.1 k1
    by_cases z : c = 0
    · subst z
      have n0 := c0 rfl
      subst n0
      unfold F_X6_readClause F_X9_isClause
      rw [bnd_of hh, k1, show nI 107 = (107 : Int32) from rfl, fow_k, if_pos (show nI 0 = (0 : Int32) from rfl), bnd_some, if_pos rfl, nm_def, i_s, if_neg (show ¬ (107 : Int32) = 105 by decide), if_pos rfl, e1, if_pos (show nI 107 = (107 : Int32) from rfl), if_pos (show nI 0 ≤ (0 : Int32) by decide), e2]
      rcases cars_both hN X fp fa fi 3 N N 0 (p + 1) np (nI 0) f12 (nI p) (nI 107) nu fg g2 be (by omega) (by omega) (by omega) (by omega) (fun i hi => absurd hi (by omega)) with ⟨f, x, p', r1, r2, r3, y1, y2, y3, y4, y5, y6, y7, q1, q2, q3, q4⟩ | ⟨p', c', be', r1, f12', y2, y3, y4, y5, rb', q1, q2, q3, q4, q5, q6, q7⟩
      · have q3 : F_X6_readCars N (nI len) fp 0 (nI (p + 1)) np t1 (nI 0) f12 = some (nI x, nI f, nI p', r1, r2, r3) := q3
        have q4 : F_X9_areCars N (nI len) (nI (p + 1)) (nI p) (nI 107) nu fg fa fi (nI 0) t2 g2 = some (0, y1, y2, y3, y4, y5, nI x, nI f, y6, y7) := q4
        rw [bnd_of q3, bnd_of q4]
        exact ⟨_, _, rfl, rfl, Or.inl ⟨rfl, f, x, p', q1, q2, rfl, rfl, rfl, rfl, rfl⟩⟩
      · have q6 : F_X6_readCars N (nI len) fp 0 (nI (p + 1)) np t1 (nI 0) f12 = some (fp, 0, nI p', r1, nI c', f12') := q6
        have q7 : F_X9_areCars N (nI len) (nI (p + 1)) (nI p) (nI 107) nu fg fa fi (nI 0) t2 g2 = some (1, nI p', y2, y3, y4, y5, fa, fi, nI c', rb') := q7
        rw [bnd_of q6, bnd_of q7]
        exact ⟨_, _, rfl, rfl, Or.inr ⟨rfl, rfl, rfl, p', by omega, q2, rfl, rfl, 0, c', cp, lt, x18, pi, lo, de, fr, to, be', q4, cp4, fun e => rfl, M, Tr, rfl, rfl, rfl, rfl, rfl, rfl, rfl, rfl, hl, q5, hM, hZ⟩⟩
    · refine bad 3 (0, pos, nI p, tk, nu, fg, nI p, 3, nI c, nI n, nI cp, m11, g2, g3, g4) (by omega) (by rw [k1, show nI 107 = (107 : Int32) from rfl, fow_k, if_neg (ne0 z (by omega))]; rfl) ?_ rfl rfl rfl
      unfold F_X9_isClause
      rw [e1, if_pos (show nI 107 = (107 : Int32) from rfl), if_neg (nle0 (by omega) (by omega))]
      rfl
  have u1 : ¬ tk = 107 := t107.2 k1
  by_cases z : c = 0
  · subst z
    refine bad 1 (0, pos, nI p, tk, nu, fg, nI p, 1, nI 0, nI n, nI cp, m11, g2, g3, g4) (by omega) ?_ ?_ rfl rfl rfl
    · by_cases k2 : T p = 115
      · rw [k2, show nI 115 = (115 : Int32) from rfl, fow_s, if_pos (show nI 0 = (0 : Int32) from rfl)]; rfl
      by_cases k3 : T p = 105
      · rw [k3, show nI 105 = (105 : Int32) from rfl, fow_i, if_pos (show nI 0 = (0 : Int32) from rfl)]; rfl
      by_cases k4 : T p = 99
      · rw [k4, show nI 99 = (99 : Int32) from rfl, fow_c, if_pos (show nI 0 = (0 : Int32) from rfl)]; rfl
      exact fow_o _ _ _ _ (ne99 k4 (by omega)) (ne105 k3 (by omega)) (ne107 k1 (by omega)) (ne115 k2 (by omega))
    · unfold F_X9_isClause
      rw [if_neg u1, if_pos (show nI 0 = (0 : Int32) from rfl)]
      rfl
  have cz : ¬ nI c = (0 : Int32) := ne0 z (by omega)
  by_cases k2 : T p = 115
  · obtain ⟨e1, e2⟩ := t115.1 k2
    by_cases zn : n < 8
    · unfold F_X6_readClause F_X9_isClause
      rw [bnd_of hh, k2, show nI 115 = (115 : Int32) from rfl, fow_s, if_neg cz, if_pos (lt8 zn), bnd_some, if_pos rfl, nm_def, i_s, if_neg (show ¬ (115 : Int32) = 105 by decide), if_neg (show ¬ (115 : Int32) = 107 by decide), if_pos rfl, if_neg u1, if_neg cz, if_pos (show tk = 115 from e1), e2]
      rcases slp_both hN X (p := p + 1) (by omega) zn fp fa fi np (nI p) tk nu fg f13 f14 f15 f16 f17 g3 g4 with ⟨f, x, p', r1, r2, R1, R2, R3, R4, R5, y1, y2, y3, y4, y5, y6, Y1, Y2, q1, q2, q3, q4⟩ | ⟨p', v0, v1, v2, v3, v4, r1, y2, y3, y4, y5, q1, q2, b0, b1, b2, b3, b4, q3, q4⟩
      · rw [bnd_of q3, bnd_of q4]
        exact ⟨_, _, rfl, rfl, Or.inl ⟨rfl, f, x, p', q1, q2, rfl, rfl, rfl, rfl, rfl⟩⟩
      · rw [bnd_of q3, bnd_of q4]
        refine ⟨_, _, rfl, rfl, Or.inr ⟨rfl, rfl, rfl, p', by omega, q2, rfl, rfl, n + 1, c, cp, lt, x18, fun s => if s = n then v0 else pi s, fun s => if s = n then v1 else lo s, fun s => if s = n then v2 else de s, fun s => if s = n then v3 else fr s, fun s => if s = n then v4 else to s, be, c4, cp4, fun e => absurd e z, ⟨by omega, fun s hs => ?_⟩, fun s hs => ?_, rfl, rfl, rfl, rfl, rfl, rfl, rfl, rfl, hl, hB, fun s hs => ?_, fun s h1 h2 => hZ s (by omega) h2⟩⟩
        · show upd (upd (upd (upd (upd g3 (5 * n + 0) (nI v0)) (5 * n + 1) (nI v1)) (5 * n + 2) (nI v2)) (5 * n + 3) (nI v3)) (5 * n + 4) (nI v4) (5 * s) = nI (if s = n then v0 else pi s) ∧ upd (upd (upd (upd (upd g3 (5 * n + 0) (nI v0)) (5 * n + 1) (nI v1)) (5 * n + 2) (nI v2)) (5 * n + 3) (nI v3)) (5 * n + 4) (nI v4) (5 * s + 1) = nI (if s = n then v1 else lo s) ∧ upd (upd (upd (upd (upd g3 (5 * n + 0) (nI v0)) (5 * n + 1) (nI v1)) (5 * n + 2) (nI v2)) (5 * n + 3) (nI v3)) (5 * n + 4) (nI v4) (5 * s + 2) = nI (if s = n then v2 else de s) ∧ upd (upd (upd (upd (upd g3 (5 * n + 0) (nI v0)) (5 * n + 1) (nI v1)) (5 * n + 2) (nI v2)) (5 * n + 3) (nI v3)) (5 * n + 4) (nI v4) (5 * s + 3) = nI (if s = n then v3 else fr s) ∧ upd (upd (upd (upd (upd g3 (5 * n + 0) (nI v0)) (5 * n + 1) (nI v1)) (5 * n + 2) (nI v2)) (5 * n + 3) (nI v3)) (5 * n + 4) (nI v4) (5 * s + 4) = nI (if s = n then v4 else to s) ∧ (if s = n then v0 else pi s) < 12 ∧ (if s = n then v1 else lo s) ≤ 9 ∧ (if s = n then v2 else de s) ≤ 40 ∧ (if s = n then v3 else fr s) ≤ (if s = n then v4 else to s) ∧ (if s = n then v4 else to s) ≤ 12
          by_cases e : s = n
          · subst e
            rw [if_pos (rfl : s = s), if_pos (rfl : s = s), if_pos (rfl : s = s), if_pos (rfl : s = s), if_pos (rfl : s = s)]
            refine ⟨?_, ?_, ?_, ?_, ?_, by omega, b1, b2, b3, b4⟩
            · rw [pk_un (by omega), pk_un (by omega), pk_un (by omega), pk_un (by omega)]
              exact pk_us
            · rw [pk_un (by omega), pk_un (by omega), pk_un (by omega), pk_us]
            · rw [pk_un (by omega), pk_un (by omega), pk_us]
            · rw [pk_un (by omega), pk_us]
            · rw [pk_us]
          · simp only [if_neg e]
            have hs' : s < n := by omega
            obtain ⟨o1, o2, o3, o4, o5, o6⟩ := M.2 s hs'
            refine ⟨?_, ?_, ?_, ?_, ?_, o6⟩
            · rw [pk_un (by omega), pk_un (by omega), pk_un (by omega), pk_un (by omega), pk_un (by omega), o1]
            · rw [pk_un (by omega), pk_un (by omega), pk_un (by omega), pk_un (by omega), pk_un (by omega), o2]
            · rw [pk_un (by omega), pk_un (by omega), pk_un (by omega), pk_un (by omega), pk_un (by omega), o3]
            · rw [pk_un (by omega), pk_un (by omega), pk_un (by omega), pk_un (by omega), pk_un (by omega), o4]
            · rw [pk_un (by omega), pk_un (by omega), pk_un (by omega), pk_un (by omega), pk_un (by omega), o5]
        · show upd f13 n (nI v0) s = nI (if s = n then v0 else pi s) ∧ upd f14 n (nI v1) s = nI (if s = n then v1 else lo s) ∧ upd f15 n (nI v2) s = nI (if s = n then v2 else de s) ∧ upd f16 n (nI v3) s = nI (if s = n then v3 else fr s) ∧ upd f17 n (nI v4) s = nI (if s = n then v4 else to s)
          by_cases e : s = n
          · subst e
            rw [if_pos (rfl : s = s), if_pos (rfl : s = s), if_pos (rfl : s = s), if_pos (rfl : s = s), if_pos (rfl : s = s)]
            exact ⟨pk_us, pk_us, pk_us, pk_us, pk_us⟩
          · simp only [if_neg e]
            rw [pk_un e, pk_un e, pk_un e, pk_un e, pk_un e]
            exact Tr s (by omega)
        · show f18 s = upd g4 n (-1) s ∧ (upd g4 n (-1) s = -1 ∨ ∃ m, m < n + 1 ∧ m ≠ s ∧ upd g4 n (-1) s = nI m ∧ upd g4 n (-1) m = nI s)
          by_cases e : s = n
          · rw [e, pk_us]
            exact ⟨hZ n (Nat.le_refl _) zn, Or.inl rfl⟩
          · rw [pk_un e]
            obtain ⟨o1, o2⟩ := hM s (by omega)
            refine ⟨o1, ?_⟩
            rcases o2 with o2 | ⟨m, o2, o3, o4, o5⟩
            · exact Or.inl o2
            · exact Or.inr ⟨m, by omega, o3, o4, by rw [pk_un (by omega)]; exact o5⟩
    · have n8 : n = 8 := by omega
      refine bad 3 (0, pos, nI p, tk, nu, fg, nI p, 3, nI c, nI n, nI cp, m11, g2, g3, g4) (by omega) (by rw [k2, show nI 115 = (115 : Int32) from rfl, fow_s, if_neg cz, if_neg (nlt8 (by omega) (by omega))]; rfl) ?_ rfl rfl rfl
      unfold F_X9_isClause F_X9_isSleeper
      rw [if_neg u1, if_neg cz, if_pos (show tk = 115 from e1), if_pos (show nI n = (8 : Int32) by rw [n8]; rfl)]
      rfl
  have u2 : ¬ tk = 115 := t115.2 k2
  by_cases k3 : T p = 105
  · obtain ⟨e1, e2⟩ := t105.1 k3
    rcases hl with ⟨l1, l2, l3⟩ | ⟨l1, l2, l3⟩
    · subst l1
      subst l3
      unfold F_X6_readClause F_X9_isClause
      rw [bnd_of hh, k3, show nI 105 = (105 : Int32) from rfl, fow_i, if_neg cz, if_pos (show b2i false = 0 from rfl), bnd_some, if_pos rfl, nm_def, i_s, if_pos rfl, if_neg u1, if_neg cz, if_neg u2, if_pos (show tk = 105 from e1), e2]
      rcases law_both hN X fp fa fi 7 N N 0 (p + 1) np 0 (-1) (nI p) tk nu fg (by omega) (by omega) (by omega) (by omega) (fun i hi => by rw [b_0] at hi; cases hi) (Or.inl ⟨rfl, rfl⟩) with ⟨f, x, p', r1, r2, r3, y1, y2, y3, y4, y5, y6, q1, q2, q3, q4⟩ | ⟨p', w', r1, y2, y3, y4, y5, q1, q2, q3, q4, q5⟩
      · have q3 : F_X6_readLaw N (nI len) fp 0 (nI (p + 1)) np (b2i false) t1 x18 = some (nI x, nI f, nI p', r1, r2, r3) := q3
        have q4 : F_X9_areIntervals N (nI len) (nI (p + 1)) (nI p) tk nu fg fa fi (-1) t2 = some (0, y1, y2, y3, y4, y5, nI x, nI f, y6) := by
          unfold F_X9_areIntervals
          rw [if_pos (show (-1 : Int32) < 0 by decide)]
          exact q4
        rw [bnd_of q3, bnd_of q4]
        exact ⟨_, _, rfl, rfl, Or.inl ⟨rfl, f, x, p', q1, q2, rfl, rfl, rfl, rfl, rfl⟩⟩
      · have q4 : F_X6_readLaw N (nI len) fp 0 (nI (p + 1)) np (b2i false) t1 x18 = some (fp, 0, nI p', r1, 1, w') := q4
        have q5 : F_X9_areIntervals N (nI len) (nI (p + 1)) (nI p) tk nu fg fa fi (-1) t2 = some (1, nI p', y2, y3, y4, y5, fa, fi, w') := by
          unfold F_X9_areIntervals
          rw [if_pos (show (-1 : Int32) < 0 by decide)]
          exact q5
        rw [bnd_of q4, bnd_of q5]
        exact ⟨_, _, rfl, rfl, Or.inr ⟨rfl, rfl, rfl, p', by omega, q2, rfl, rfl, n, c, cp, true, w', pi, lo, de, fr, to, be, c4, cp4, c0, M, Tr, rfl, rfl, rfl, rfl, rfl, rfl, rfl, rfl, Or.inr ⟨rfl, rfl, q3⟩, hB, hM, hZ⟩⟩
    · subst l1
      have w0 : ¬ m11 < 0 := by
        rw [l2]
        obtain ⟨mm, h1, h2⟩ := small8 (x := x18) (fun i hi => by
          cases e : bt x18 i with
          | false => rfl
          | true => have := l3 i e; omega)
        rw [h2]
        exact i_n0 (by omega)
      refine bad 3 (0, pos, nI p, tk, nu, fg, nI p, 3, nI c, nI n, nI cp, m11, g2, g3, g4) (by omega) (by rw [k3, show nI 105 = (105 : Int32) from rfl, fow_i, if_neg cz, if_neg (show ¬ b2i true = 0 by decide)]; rfl) ?_ rfl rfl rfl
      unfold F_X9_isClause F_X9_areIntervals
      rw [if_neg u1, if_neg cz, if_neg u2, if_pos (show tk = 105 from e1), if_neg w0]
      rfl
  have u3 : ¬ tk = 105 := t105.2 k3
  by_cases k4 : T p = 99
  · obtain ⟨e1, e2⟩ := t99.1 k4
    by_cases zn : cp < 4
    · unfold F_X6_readClause F_X9_isClause
      rw [bnd_of hh, k4, show nI 99 = (99 : Int32) from rfl, fow_c, if_neg cz, if_pos (lt4 zn), bnd_some, if_pos rfl, nm_def, i_s, if_neg (show ¬ (99 : Int32) = 105 by decide), if_neg (show ¬ (99 : Int32) = 107 by decide), if_neg (show ¬ (99 : Int32) = 115 by decide), if_neg u1, if_neg cz, if_neg u2, if_neg u3, if_pos (show tk = 99 from e1), e2]
      rcases cpl_both hN X (p := p + 1) (by omega) h8 zn fp fa fi np (nI p) tk nu fg (f18 := f18) (rm := g4) (fun s hs => (hM s hs).1) with ⟨f, x, p', r1, r2, R1, y1, y2, y3, y4, y5, y6, Y1, q1, q2, q3, q4⟩ | ⟨p', a, b, r1, y2, y3, y4, y5, q1, q2, ha, hb2, hab, ma, mb, q3, q4⟩
      · rw [bnd_of q3, bnd_of q4]
        exact ⟨_, _, rfl, rfl, Or.inl ⟨rfl, f, x, p', q1, q2, rfl, rfl, rfl, rfl, rfl⟩⟩
      · rw [bnd_of q3, bnd_of q4]
        refine ⟨_, _, rfl, rfl, Or.inr ⟨rfl, rfl, rfl, p', by omega, q2, rfl, rfl, n, c, cp + 1, lt, x18, pi, lo, de, fr, to, be, c4, by omega, c0, M, Tr, rfl, rfl, rfl, rfl, rfl, rfl, rfl, rfl, hl, hB, fun s hs => ?_, fun s h1 h2 => ?_⟩⟩
        · show upd (upd f18 a (nI b)) b (nI a) s = upd (upd g4 a (nI b)) b (nI a) s ∧ (upd (upd g4 a (nI b)) b (nI a) s = -1 ∨ ∃ m, m < n ∧ m ≠ s ∧ upd (upd g4 a (nI b)) b (nI a) s = nI m ∧ upd (upd g4 a (nI b)) b (nI a) m = nI s)
          by_cases es : s = b
          · rw [es, pk_us, pk_us]
            exact ⟨rfl, Or.inr ⟨a, ha, hab, rfl, by rw [pk_un hab, pk_us]⟩⟩
          · rw [pk_un es, pk_un es]
            by_cases es2 : s = a
            · rw [es2, pk_us, pk_us]
              exact ⟨rfl, Or.inr ⟨b, hb2, fun e => hab e.symm, rfl, pk_us⟩⟩
            · rw [pk_un es2, pk_un es2]
              obtain ⟨o1, o2⟩ := hM s hs
              refine ⟨o1, ?_⟩
              rcases o2 with o2 | ⟨m, o2, o3, o4, o5⟩
              · exact Or.inl o2
              · have hma : m ≠ a := fun e => by
                  rw [e, ma] at o5
                  exact i_m1' (by omega) o5
                have hmb : m ≠ b := fun e => by
                  rw [e, mb] at o5
                  exact i_m1' (by omega) o5
                exact Or.inr ⟨m, o2, o3, o4, by rw [pk_un hmb, pk_un hma]; exact o5⟩
        · show upd (upd f18 a (nI b)) b (nI a) s = -1
          rw [pk_un (by omega), pk_un (by omega)]
          exact hZ s h1 h2
    · have n8 : cp = 4 := by omega
      refine bad 3 (0, pos, nI p, tk, nu, fg, nI p, 3, nI c, nI n, nI cp, m11, g2, g3, g4) (by omega) (by rw [k4, show nI 99 = (99 : Int32) from rfl, fow_c, if_neg cz, if_neg (nlt4 (by omega) (by omega))]; rfl) ?_ rfl rfl rfl
      unfold F_X9_isClause F_X9_isCouple
      rw [if_neg u1, if_neg cz, if_neg u2, if_neg u3, if_pos (show tk = 99 from e1), if_pos (show nI cp = (4 : Int32) by rw [n8]; rfl)]
      rfl
  have u4 : ¬ tk = 99 := t99.2 k4
  refine bad 1 (0, pos, nI p, tk, nu, fg, nI p, 1, nI c, nI n, nI cp, m11, g2, g3, g4) (by omega) (fow_o _ _ _ _ (ne99 k4 (by omega)) (ne105 k3 (by omega)) (ne107 k1 (by omega)) (ne115 k2 (by omega))) ?_ rfl rfl rfl
  unfold F_X9_isClause
  rw [if_neg u1, if_neg cz, if_neg u2, if_neg u3, if_neg u4]
  rfl
end Clause

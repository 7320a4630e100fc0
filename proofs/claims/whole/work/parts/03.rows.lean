def lst1 (i : Nat) (v : Value) (L : List (Nat × Value)) : List (Nat × Value) := (i, v) :: L.filter (fun q => !(q.1 == i) && !(q.1 + 1 == i && q.2.category == 2))
def lst2 (i : Nat) (v : Value) (L : List (Nat × Value)) : List (Nat × Value) := (i, v) :: L.filter (fun q => !(q.1 == i) && (!(q.1 == i + 1) && !(q.1 + 1 == i && q.2.category == 2)))
def nm {α β : Type} (e : α) (k : α → Option β) : Option β := k e
def bnd {α β : Type} (F : Option α) (k : α → Option β) : Option β := match F with
  | some a => k a
  | none => none
def rd {α β : Type} (n : Nat) (f : Nat → α) (i : Int32) (k : α → Option β) : Option β := if i < 0 ∨ n ≤ i.toNatClampNeg then none else k (f i.toNatClampNeg)
def wr {β : Type} (n : Nat) (f : Nat → Int32) (i x : Int32) (k : (Nat → Int32) → Option β) : Option β := if i < 0 ∨ n ≤ i.toNatClampNeg then none else k (upd f i.toNatClampNeg x)
def nz {β : Type} (y : Int32) (k : Option β) : Option β := if y = 0 then none else k
theorem bnd_elim {α β : Type} {F : Option α} {k : α → Option β} {o : β} (h : bnd F k = some o) : ∃ a, F = some a ∧ k a = some o := by
  cases F with
  | none => cases (show (none : Option β) = some o from h)
  | some a => exact ⟨a, rfl, h⟩
theorem rd_elim {α β : Type} {n : Nat} {f : Nat → α} {i : Int32} {k : α → Option β} {o : β} (h : rd n f i k = some o) : vp_in i n ∧ k (f i.toNatClampNeg) = some o := by
  unfold rd at h
  by_cases c : i < 0 ∨ n ≤ i.toNatClampNeg
  · rw [if_pos c] at h
    cases h
  · rw [if_neg c] at h
    exact ⟨c, h⟩
theorem wr_elim {β : Type} {n : Nat} {f : Nat → Int32} {i x : Int32} {k : (Nat → Int32) → Option β} {o : β} (h : wr n f i x k = some o) : vp_in i n ∧ k (upd f i.toNatClampNeg x) = some o := by
  unfold wr at h
  by_cases c : i < 0 ∨ n ≤ i.toNatClampNeg
  · rw [if_pos c] at h
    cases h
  · rw [if_neg c] at h
    exact ⟨c, h⟩
theorem nz_elim {β : Type} {y : Int32} {k : Option β} {o : β} (h : nz y k = some o) : ¬ y = 0 ∧ k = some o := by
  unfold nz at h
  by_cases c : y = 0
  · rw [if_pos c] at h
    cases h
  · rw [if_neg c] at h
    exact ⟨c, h⟩
theorem go_ite {β : Type} {c : Prop} [Decidable c] {a b : Option β} {o : β} {G : Prop} (h : (if c then a else b) = some o) (t : c → a = some o → G) (f : ¬ c → b = some o → G) : G := by
  by_cases q : c
  · rw [if_pos q] at h
    exact t q h
  · rw [if_neg q] at h
    exact f q h
section Rows
variable {K : gK} {X : gX} {M : gM} {k n pc : Nat} {ws : va_W} {L : List (Nat × Value)} {st : List Value}
theorem go_eq {pc' : Nat} {st' : List Value} (h1 : pc = pc') (h2 : st = st') (kk : Go K X M k n ws L pc' st') : Go K X M k n ws L pc st := by
  subst h1; subst h2; exact kk
theorem go_loc {L' : List (Nat × Value)} (ks : List Nat) (h : lv_pick L ks = L') (kk : Go K X M k n ws L' pc st) : Go K X M k n ws L pc st :=
  fun C H locs ls hP hD hS hl => kk C H locs ls hP hD hS (lv_sub hl ks h)
theorem go_ws {ws' : va_W} (js : List Nat) (h : js.map (fun i => ws[i]?) = ws'.map some) (hn : va_nd js = true) (kk : Go K X M k n ws' L pc st) : Go K X M k n ws L pc st :=
  fun C H locs ls hP hD hS hl => kk C H locs ls (hP.sub js (by
    have h1 : (js.map (fun i => ws[i]?)).filterMap id = (ws'.map some).filterMap id := by rw [h]
    simpa [List.filterMap_map] using h1)) (hD.sub js hn h) hS hl
theorem go_wid {k' n' : Nat} (h1 : k ≤ k') (h2 : n ≤ n') (kk : Go K X M k' n' ws L pc st) : Go K X M k n ws L pc st :=
  fun C H locs ls hP hD hS hl => W.widen h1 h2 (kk C H locs ls hP hD hS hl)
theorem go_nmi {β : Type} {F : Int32 → Option β} {o : β} {e : Int32} (hF : nm e F = some o) (kk : ∀ x : Int32, F x = some o → Go K X M k n ws L pc (.int x :: st)) : Go K X M k n ws L pc (.int e :: st) := kk e hF
theorem go_nml {β : Type} {F : Int64 → Option β} {o : β} {e : Int64} (hF : nm e F = some o) (kk : ∀ x : Int64, F x = some o → Go K X M k n ws L pc (.long x :: st)) : Go K X M k n ws L pc (.long e :: st) := kk e hF

theorem go_iload {i : Nat} {x : Int32} (j : Nat) (d : decode M.2.1 pc = .ok (.iload i, 2)) (h : L[j]? = some (i, .int x)) (kk : Go K X M k n ws L (pc + 2) (.int x :: st)) : Go K X M k n ws L pc (st) := fun C H locs ls hP hD hS hl => lv_iload C.1 C.2.1 d (lv_at hl j h) (kk C H locs ls hP hD hS hl)
theorem go_iload_n {f : Fin 4} {i : Nat} {x : Int32} (j : Nat) (d : decode M.2.1 pc = .ok (.iload_n f, 1)) (hi : (f : Nat) = i) (h : L[j]? = some (i, .int x)) (kk : Go K X M k n ws L (pc + 1) (.int x :: st)) : Go K X M k n ws L pc (st) := fun C H locs ls hP hD hS hl => lv_iload_n C.1 C.2.1 d hi (lv_at hl j h) (kk C H locs ls hP hD hS hl)
theorem go_istore {i : Nat} {x : Int32} (L' : List (Nat × Value)) (d : decode M.2.1 pc = .ok (.istore i, 2)) (hn : i < M.2.2.1) (h : lst1 i (.int x) L = L') (kk : Go K X M k n ws L' (pc + 2) st) : Go K X M k n ws L pc (.int x :: st) := fun C H locs ls hP hD hS hl => lv_istore C.1 C.2.1 d hl hn h (fun ls' hl' => kk C H locs ls' hP hD hS hl')
theorem go_istore_n {f : Fin 4} {i : Nat} {x : Int32} (L' : List (Nat × Value)) (d : decode M.2.1 pc = .ok (.istore_n f, 1)) (hi : (f : Nat) = i) (hn : i < M.2.2.1) (h : lst1 i (.int x) L = L') (kk : Go K X M k n ws L' (pc + 1) st) : Go K X M k n ws L pc (.int x :: st) := fun C H locs ls hP hD hS hl => lv_istore_n C.1 C.2.1 d hi hl hn h (fun ls' hl' => kk C H locs ls' hP hD hS hl')
theorem go_aload {i : Nat} {x : Nat} (j : Nat) (d : decode M.2.1 pc = .ok (.aload i, 2)) (h : L[j]? = some (i, .ref x)) (kk : Go K X M k n ws L (pc + 2) (.ref x :: st)) : Go K X M k n ws L pc (st) := fun C H locs ls hP hD hS hl => lv_aload C.1 C.2.1 d (lv_at hl j h) (kk C H locs ls hP hD hS hl)
theorem go_aload_n {f : Fin 4} {i : Nat} {x : Nat} (j : Nat) (d : decode M.2.1 pc = .ok (.aload_n f, 1)) (hi : (f : Nat) = i) (h : L[j]? = some (i, .ref x)) (kk : Go K X M k n ws L (pc + 1) (.ref x :: st)) : Go K X M k n ws L pc (st) := fun C H locs ls hP hD hS hl => lv_aload_n C.1 C.2.1 d hi (lv_at hl j h) (kk C H locs ls hP hD hS hl)
theorem go_astore {i : Nat} {x : Nat} (L' : List (Nat × Value)) (d : decode M.2.1 pc = .ok (.astore i, 2)) (hn : i < M.2.2.1) (h : lst1 i (.ref x) L = L') (kk : Go K X M k n ws L' (pc + 2) st) : Go K X M k n ws L pc (.ref x :: st) := fun C H locs ls hP hD hS hl => lv_astore C.1 C.2.1 d hl hn h (fun ls' hl' => kk C H locs ls' hP hD hS hl')
theorem go_astore_n {f : Fin 4} {i : Nat} {x : Nat} (L' : List (Nat × Value)) (d : decode M.2.1 pc = .ok (.astore_n f, 1)) (hi : (f : Nat) = i) (hn : i < M.2.2.1) (h : lst1 i (.ref x) L = L') (kk : Go K X M k n ws L' (pc + 1) st) : Go K X M k n ws L pc (.ref x :: st) := fun C H locs ls hP hD hS hl => lv_astore_n C.1 C.2.1 d hi hl hn h (fun ls' hl' => kk C H locs ls' hP hD hS hl')
theorem go_lload {i : Nat} {x : Int64} (j : Nat) (d : decode M.2.1 pc = .ok (.lload i, 2)) (h : L[j]? = some (i, .long x)) (kk : Go K X M k n ws L (pc + 2) (.long x :: st)) : Go K X M k n ws L pc (st) := fun C H locs ls hP hD hS hl => lv_lload C.1 C.2.1 d (lv_at hl j h) (kk C H locs ls hP hD hS hl)
theorem go_lload_n {f : Fin 4} {i : Nat} {x : Int64} (j : Nat) (d : decode M.2.1 pc = .ok (.lload_n f, 1)) (hi : (f : Nat) = i) (h : L[j]? = some (i, .long x)) (kk : Go K X M k n ws L (pc + 1) (.long x :: st)) : Go K X M k n ws L pc (st) := fun C H locs ls hP hD hS hl => lv_lload_n C.1 C.2.1 d hi (lv_at hl j h) (kk C H locs ls hP hD hS hl)
theorem go_lstore {i : Nat} {x : Int64} (L' : List (Nat × Value)) (d : decode M.2.1 pc = .ok (.lstore i, 2)) (hn : i + 1 < M.2.2.1) (h : lst2 i (.long x) L = L') (kk : Go K X M k n ws L' (pc + 2) st) : Go K X M k n ws L pc (.long x :: st) := fun C H locs ls hP hD hS hl => lv_lstore C.1 C.2.1 d hl hn h (fun ls' hl' => kk C H locs ls' hP hD hS hl')
theorem go_lstore_n {f : Fin 4} {i : Nat} {x : Int64} (L' : List (Nat × Value)) (d : decode M.2.1 pc = .ok (.lstore_n f, 1)) (hi : (f : Nat) = i) (hn : i + 1 < M.2.2.1) (h : lst2 i (.long x) L = L') (kk : Go K X M k n ws L' (pc + 1) st) : Go K X M k n ws L pc (.long x :: st) := fun C H locs ls hP hD hS hl => lv_lstore_n C.1 C.2.1 d hi hl hn h (fun ls' hl' => kk C H locs ls' hP hD hS hl')
theorem go_iinc {β : Type} {F : Int32 → Option β} {o : β} {i : Nat} {c : Int} {x v : Int32} (j : Nat) (L' : Int32 → List (Nat × Value)) (hF : nm v F = some o) (d : decode M.2.1 pc = .ok (.iinc i c, 3)) (hj : L[j]? = some (i, .int x)) (hv : x + Int32.ofInt c = v) (hn : i < M.2.2.1) (h : ∀ y, lst1 i (.int y) L = L' y) (kk : ∀ y : Int32, F y = some o → Go K X M k n ws (L' y) (pc + 3) st) : Go K X M k n ws L pc st := fun C H locs ls hP hD hS hl => lv_iinc C.1 C.2.1 d hl hj hv hn (h v) (fun ls' hl' => kk v hF C H locs ls' hP hD hS hl')
theorem go_iconst {c : Int} {v : Int32} (d : decode M.2.1 pc = .ok (.iconst c, 1)) (hv : Int32.ofInt c = v) (kk : Go K X M k n ws L (pc + 1) (.int v :: st)) : Go K X M k n ws L pc (st) := fun C H locs ls hP hD hS hl => lv_iconst C.1 C.2.1 d hv (kk C H locs ls hP hD hS hl)
theorem go_bipush {c : Int} {v : Int32} (d : decode M.2.1 pc = .ok (.bipush c, 2)) (hv : (Int8.ofInt c).toInt32 = v) (kk : Go K X M k n ws L (pc + 2) (.int v :: st)) : Go K X M k n ws L pc (st) := fun C H locs ls hP hD hS hl => lv_bipush C.1 C.2.1 d hv (kk C H locs ls hP hD hS hl)
theorem go_sipush {c : Int} {v : Int32} (d : decode M.2.1 pc = .ok (.sipush c, 3)) (hv : (Int16.ofInt c).toInt32 = v) (kk : Go K X M k n ws L (pc + 3) (.int v :: st)) : Go K X M k n ws L pc (st) := fun C H locs ls hP hD hS hl => lv_sipush C.1 C.2.1 d hv (kk C H locs ls hP hD hS hl)
theorem go_lconst {c : Fin 2} {v : Int64} (d : decode M.2.1 pc = .ok (.lconst c, 1)) (hv : Int64.ofNat (c : Nat) = v) (kk : Go K X M k n ws L (pc + 1) (.long v :: st)) : Go K X M k n ws L pc (st) := fun C H locs ls hP hD hS hl => lv_lconst C.1 C.2.1 d hv (kk C H locs ls hP hD hS hl)
theorem go_ldc {ix : Nat} {v : Int32} (d : decode M.2.1 pc = .ok (.ldc ix, 2)) (hw : Cond.constant M.1.cls ix v ∈ GW) (kk : Go K X M k n ws L (pc + 2) (.int v :: st)) : Go K X M k n ws L pc (st) := fun C H locs ls hP hD hS hl => lv_ldc C.1 C.2.1 C.2.2.2.1 (C.2.2.2.2.1 _ hw) d (kk C H locs ls hP hD hS hl)
theorem go_ldc2 {ix : Nat} {v : Int64} (d : decode M.2.1 pc = .ok (.ldc2_w ix, 3)) (hw : Cond.constantLong M.1.cls ix v ∈ GW) (kk : Go K X M k n ws L (pc + 3) (.long v :: st)) : Go K X M k n ws L pc (st) := fun C H locs ls hP hD hS hl => lv_ldc2 C.1 C.2.1 C.2.2.2.1 (C.2.2.2.2.1 _ hw) d (kk C H locs ls hP hD hS hl)
theorem go_iadd {x y : Int32} (d : decode M.2.1 pc = .ok (.iadd, 1))  (kk : Go K X M k n ws L (pc + 1) (.int (x + y) :: st)) : Go K X M k n ws L pc (.int y :: .int x :: st) := fun C H locs ls hP hD hS hl => lv_iadd C.1 C.2.1 d (kk C H locs ls hP hD hS hl)
theorem go_isub {x y : Int32} (d : decode M.2.1 pc = .ok (.isub, 1))  (kk : Go K X M k n ws L (pc + 1) (.int (x - y) :: st)) : Go K X M k n ws L pc (.int y :: .int x :: st) := fun C H locs ls hP hD hS hl => lv_isub C.1 C.2.1 d (kk C H locs ls hP hD hS hl)
theorem go_imul {x y : Int32} (d : decode M.2.1 pc = .ok (.imul, 1))  (kk : Go K X M k n ws L (pc + 1) (.int (x * y) :: st)) : Go K X M k n ws L pc (.int y :: .int x :: st) := fun C H locs ls hP hD hS hl => lv_imul C.1 C.2.1 d (kk C H locs ls hP hD hS hl)
theorem go_iand {x y : Int32} (d : decode M.2.1 pc = .ok (.iand, 1))  (kk : Go K X M k n ws L (pc + 1) (.int (x &&& y) :: st)) : Go K X M k n ws L pc (.int y :: .int x :: st) := fun C H locs ls hP hD hS hl => lv_iand C.1 C.2.1 d (kk C H locs ls hP hD hS hl)
theorem go_ior {x y : Int32} (d : decode M.2.1 pc = .ok (.ior, 1))  (kk : Go K X M k n ws L (pc + 1) (.int (x ||| y) :: st)) : Go K X M k n ws L pc (.int y :: .int x :: st) := fun C H locs ls hP hD hS hl => lv_ior C.1 C.2.1 d (kk C H locs ls hP hD hS hl)
theorem go_ixor {x y : Int32} (d : decode M.2.1 pc = .ok (.ixor, 1))  (kk : Go K X M k n ws L (pc + 1) (.int (x ^^^ y) :: st)) : Go K X M k n ws L pc (.int y :: .int x :: st) := fun C H locs ls hP hD hS hl => lv_ixor C.1 C.2.1 d (kk C H locs ls hP hD hS hl)
theorem go_ishl {x y : Int32} (d : decode M.2.1 pc = .ok (.ishl, 1))  (kk : Go K X M k n ws L (pc + 1) (.int (x <<< (y &&& 31)) :: st)) : Go K X M k n ws L pc (.int y :: .int x :: st) := fun C H locs ls hP hD hS hl => lv_ishl C.1 C.2.1 d (kk C H locs ls hP hD hS hl)
theorem go_ishr {x y : Int32} (d : decode M.2.1 pc = .ok (.ishr, 1))  (kk : Go K X M k n ws L (pc + 1) (.int (x >>> (y &&& 31)) :: st)) : Go K X M k n ws L pc (.int y :: .int x :: st) := fun C H locs ls hP hD hS hl => lv_ishr C.1 C.2.1 d (kk C H locs ls hP hD hS hl)
theorem go_iushr {x y : Int32} (d : decode M.2.1 pc = .ok (.iushr, 1))  (kk : Go K X M k n ws L (pc + 1) (.int ((x.toUInt32 >>> (y.toUInt32 &&& Int32.toUInt32 31)).toInt32) :: st)) : Go K X M k n ws L pc (.int y :: .int x :: st) := fun C H locs ls hP hD hS hl => lv_iushr C.1 C.2.1 d rfl (kk C H locs ls hP hD hS hl)
theorem go_ineg {x : Int32} (d : decode M.2.1 pc = .ok (.ineg, 1))  (kk : Go K X M k n ws L (pc + 1) (.int (-x) :: st)) : Go K X M k n ws L pc (.int x :: st) := fun C H locs ls hP hD hS hl => lv_ineg C.1 C.2.1 d (kk C H locs ls hP hD hS hl)
theorem go_idivK {x y : Int32} (d : decode M.2.1 pc = .ok (.idiv, 1)) (hne : ¬ y = 0) (kk : Go K X M k n ws L (pc + 1) (.int (x / y) :: st)) : Go K X M k n ws L pc (.int y :: .int x :: st) := fun C H locs ls hP hD hS hl => lv_idiv C.1 C.2.1 d hne (kk C H locs ls hP hD hS hl)
theorem go_idiv {β : Type} {F : Option β} {o : β} {x y : Int32} (hF : nz y F = some o) (d : decode M.2.1 pc = .ok (.idiv, 1)) (kk : F = some o → Go K X M k n ws L (pc + 1) (.int (x / y) :: st)) : Go K X M k n ws L pc (.int y :: .int x :: st) := go_idivK d (nz_elim hF).1 (kk (nz_elim hF).2)
theorem go_iremK {x y : Int32} (d : decode M.2.1 pc = .ok (.irem, 1)) (hne : ¬ y = 0) (kk : Go K X M k n ws L (pc + 1) (.int (x - x / y * y) :: st)) : Go K X M k n ws L pc (.int y :: .int x :: st) := fun C H locs ls hP hD hS hl => lv_irem C.1 C.2.1 d hne (kk C H locs ls hP hD hS hl)
theorem go_irem {β : Type} {F : Option β} {o : β} {x y : Int32} (hF : nz y F = some o) (d : decode M.2.1 pc = .ok (.irem, 1)) (kk : F = some o → Go K X M k n ws L (pc + 1) (.int (x - x / y * y) :: st)) : Go K X M k n ws L pc (.int y :: .int x :: st) := go_iremK d (nz_elim hF).1 (kk (nz_elim hF).2)
theorem go_ladd {x y : Int64} (d : decode M.2.1 pc = .ok (.ladd, 1))  (kk : Go K X M k n ws L (pc + 1) (.long (x + y) :: st)) : Go K X M k n ws L pc (.long y :: .long x :: st) := fun C H locs ls hP hD hS hl => lv_ladd C.1 C.2.1 d (kk C H locs ls hP hD hS hl)
theorem go_lmul {x y : Int64} (d : decode M.2.1 pc = .ok (.lmul, 1))  (kk : Go K X M k n ws L (pc + 1) (.long (x * y) :: st)) : Go K X M k n ws L pc (.long y :: .long x :: st) := fun C H locs ls hP hD hS hl => lv_lmul C.1 C.2.1 d (kk C H locs ls hP hD hS hl)
theorem go_land {x y : Int64} (d : decode M.2.1 pc = .ok (.land, 1))  (kk : Go K X M k n ws L (pc + 1) (.long (x &&& y) :: st)) : Go K X M k n ws L pc (.long y :: .long x :: st) := fun C H locs ls hP hD hS hl => lv_land C.1 C.2.1 d (kk C H locs ls hP hD hS hl)
theorem go_ldivK {x y : Int64} (d : decode M.2.1 pc = .ok (.ldiv, 1)) (hne : ¬ y = 0) (kk : Go K X M k n ws L (pc + 1) (.long (x / y) :: st)) : Go K X M k n ws L pc (.long y :: .long x :: st) := fun C H locs ls hP hD hS hl => lv_ldiv C.1 C.2.1 d hne (kk C H locs ls hP hD hS hl)
theorem go_lremK {x y : Int64} (d : decode M.2.1 pc = .ok (.lrem, 1)) (hne : ¬ y = 0) (kk : Go K X M k n ws L (pc + 1) (.long (x - x / y * y) :: st)) : Go K X M k n ws L pc (.long y :: .long x :: st) := fun C H locs ls hP hD hS hl => lv_lrem C.1 C.2.1 d hne (kk C H locs ls hP hD hS hl)
theorem go_i2l {x : Int32} (d : decode M.2.1 pc = .ok (.i2l, 1))  (kk : Go K X M k n ws L (pc + 1) (.long x.toInt64 :: st)) : Go K X M k n ws L pc (.int x :: st) := fun C H locs ls hP hD hS hl => lv_i2l C.1 C.2.1 d rfl (kk C H locs ls hP hD hS hl)
theorem go_l2i {x : Int64} (d : decode M.2.1 pc = .ok (.l2i, 1))  (kk : Go K X M k n ws L (pc + 1) (.int x.toInt32 :: st)) : Go K X M k n ws L pc (.long x :: st) := fun C H locs ls hP hD hS hl => lv_l2i C.1 C.2.1 d rfl (kk C H locs ls hP hD hS hl)
theorem go_dup {v : Value} (d : decode M.2.1 pc = .ok (.dup, 1)) (hv : v.category = 1) (kk : Go K X M k n ws L (pc + 1) (v :: v :: st)) : Go K X M k n ws L pc (v :: st) := fun C H locs ls hP hD hS hl => lv_dup C.1 C.2.1 d hv (kk C H locs ls hP hD hS hl)
theorem go_pop {v : Value} (d : decode M.2.1 pc = .ok (.pop, 1)) (hv : v.category = 1) (kk : Go K X M k n ws L (pc + 1) (st)) : Go K X M k n ws L pc (v :: st) := fun C H locs ls hP hD hS hl => lv_pop C.1 C.2.1 d hv (kk C H locs ls hP hD hS hl)
theorem go_dup2 {va vb : Value} (d : decode M.2.1 pc = .ok (.dup2, 1)) (hv : va.category = 1) (hw : vb.category = 1) (kk : Go K X M k n ws L (pc + 1) (va :: vb :: va :: vb :: st)) : Go K X M k n ws L pc (va :: vb :: st) := fun C H locs ls hP hD hS hl => lv_dup2_11 C.1 C.2.1 d hv hw (kk C H locs ls hP hD hS hl)
theorem go_goto {off : Int} (tgt : Nat) (d : decode M.2.1 pc = .ok (.goto off, 3)) (ht : (pc : Int) + off = (tgt : Int)) (kk : Go K X M k n ws L tgt st) : Go K X M k n ws L pc st := fun C H locs ls hP hD hS hl => lv_goto C.1 C.2.1 d ht (kk C H locs ls hP hD hS hl)
theorem go_icmp_eq {β : Type} {a b : Option β} {o : β} {x y : Int32} {off : Int} (tgt : Nat) (hF : (if x = y then a else b) = some o) (d : decode M.2.1 pc = .ok (.if_icmp .eq off, 3)) (ht : (pc : Int) + off = (tgt : Int)) (kt : a = some o → Go K X M k n ws L tgt st) (kf : b = some o → Go K X M k n ws L (pc + 3) st) : Go K X M k n ws L pc (.int y :: .int x :: st) := fun C H locs ls hP hD hS hl => lv_icmp_eq C.1 C.2.1 d ht (fun c => kt (by first | rwa [if_pos c] at hF | rwa [if_neg c] at hF) C H locs ls hP hD hS hl) (fun c => kf (by first | rwa [if_pos c] at hF | rwa [if_neg c] at hF) C H locs ls hP hD hS hl)
theorem go_if_eq {β : Type} {a b : Option β} {o : β} {x : Int32} {off : Int} (tgt : Nat) (hF : (if x = 0 then a else b) = some o) (d : decode M.2.1 pc = .ok (.ifCond .eq off, 3)) (ht : (pc : Int) + off = (tgt : Int)) (kt : a = some o → Go K X M k n ws L tgt st) (kf : b = some o → Go K X M k n ws L (pc + 3) st) : Go K X M k n ws L pc (.int x :: st) := fun C H locs ls hP hD hS hl => lv_if_eq C.1 C.2.1 d ht (fun c => kt (by first | rwa [if_pos c] at hF | rwa [if_neg c] at hF) C H locs ls hP hD hS hl) (fun c => kf (by first | rwa [if_pos c] at hF | rwa [if_neg c] at hF) C H locs ls hP hD hS hl)
theorem go_icmp_ne {β : Type} {a b : Option β} {o : β} {x y : Int32} {off : Int} (tgt : Nat) (hF : (if x = y then a else b) = some o) (d : decode M.2.1 pc = .ok (.if_icmp .ne off, 3)) (ht : (pc : Int) + off = (tgt : Int)) (kt : b = some o → Go K X M k n ws L tgt st) (kf : a = some o → Go K X M k n ws L (pc + 3) st) : Go K X M k n ws L pc (.int y :: .int x :: st) := fun C H locs ls hP hD hS hl => lv_icmp_ne C.1 C.2.1 d ht (fun c => kt (by first | rwa [if_pos c] at hF | rwa [if_neg c] at hF) C H locs ls hP hD hS hl) (fun c => kf (by first | rwa [if_pos c] at hF | rwa [if_neg c] at hF) C H locs ls hP hD hS hl)
theorem go_if_ne {β : Type} {a b : Option β} {o : β} {x : Int32} {off : Int} (tgt : Nat) (hF : (if x = 0 then a else b) = some o) (d : decode M.2.1 pc = .ok (.ifCond .ne off, 3)) (ht : (pc : Int) + off = (tgt : Int)) (kt : b = some o → Go K X M k n ws L tgt st) (kf : a = some o → Go K X M k n ws L (pc + 3) st) : Go K X M k n ws L pc (.int x :: st) := fun C H locs ls hP hD hS hl => lv_if_ne C.1 C.2.1 d ht (fun c => kt (by first | rwa [if_pos c] at hF | rwa [if_neg c] at hF) C H locs ls hP hD hS hl) (fun c => kf (by first | rwa [if_pos c] at hF | rwa [if_neg c] at hF) C H locs ls hP hD hS hl)
theorem go_icmp_lt {β : Type} {a b : Option β} {o : β} {x y : Int32} {off : Int} (tgt : Nat) (hF : (if x < y then a else b) = some o) (d : decode M.2.1 pc = .ok (.if_icmp .lt off, 3)) (ht : (pc : Int) + off = (tgt : Int)) (kt : a = some o → Go K X M k n ws L tgt st) (kf : b = some o → Go K X M k n ws L (pc + 3) st) : Go K X M k n ws L pc (.int y :: .int x :: st) := fun C H locs ls hP hD hS hl => lv_icmp_lt C.1 C.2.1 d ht (fun c => kt (by first | rwa [if_pos c] at hF | rwa [if_neg c] at hF) C H locs ls hP hD hS hl) (fun c => kf (by first | rwa [if_pos c] at hF | rwa [if_neg c] at hF) C H locs ls hP hD hS hl)
theorem go_if_lt {β : Type} {a b : Option β} {o : β} {x : Int32} {off : Int} (tgt : Nat) (hF : (if x < 0 then a else b) = some o) (d : decode M.2.1 pc = .ok (.ifCond .lt off, 3)) (ht : (pc : Int) + off = (tgt : Int)) (kt : a = some o → Go K X M k n ws L tgt st) (kf : b = some o → Go K X M k n ws L (pc + 3) st) : Go K X M k n ws L pc (.int x :: st) := fun C H locs ls hP hD hS hl => lv_if_lt C.1 C.2.1 d ht (fun c => kt (by first | rwa [if_pos c] at hF | rwa [if_neg c] at hF) C H locs ls hP hD hS hl) (fun c => kf (by first | rwa [if_pos c] at hF | rwa [if_neg c] at hF) C H locs ls hP hD hS hl)
theorem go_icmp_ge {β : Type} {a b : Option β} {o : β} {x y : Int32} {off : Int} (tgt : Nat) (hF : (if y ≤ x then a else b) = some o) (d : decode M.2.1 pc = .ok (.if_icmp .ge off, 3)) (ht : (pc : Int) + off = (tgt : Int)) (kt : a = some o → Go K X M k n ws L tgt st) (kf : b = some o → Go K X M k n ws L (pc + 3) st) : Go K X M k n ws L pc (.int y :: .int x :: st) := fun C H locs ls hP hD hS hl => lv_icmp_ge C.1 C.2.1 d ht (fun c => kt (by first | rwa [if_pos c] at hF | rwa [if_neg c] at hF) C H locs ls hP hD hS hl) (fun c => kf (by first | rwa [if_pos c] at hF | rwa [if_neg c] at hF) C H locs ls hP hD hS hl)
theorem go_if_ge {β : Type} {a b : Option β} {o : β} {x : Int32} {off : Int} (tgt : Nat) (hF : (if 0 ≤ x then a else b) = some o) (d : decode M.2.1 pc = .ok (.ifCond .ge off, 3)) (ht : (pc : Int) + off = (tgt : Int)) (kt : a = some o → Go K X M k n ws L tgt st) (kf : b = some o → Go K X M k n ws L (pc + 3) st) : Go K X M k n ws L pc (.int x :: st) := fun C H locs ls hP hD hS hl => lv_if_ge C.1 C.2.1 d ht (fun c => kt (by first | rwa [if_pos c] at hF | rwa [if_neg c] at hF) C H locs ls hP hD hS hl) (fun c => kf (by first | rwa [if_pos c] at hF | rwa [if_neg c] at hF) C H locs ls hP hD hS hl)
theorem go_icmp_gt {β : Type} {a b : Option β} {o : β} {x y : Int32} {off : Int} (tgt : Nat) (hF : (if y < x then a else b) = some o) (d : decode M.2.1 pc = .ok (.if_icmp .gt off, 3)) (ht : (pc : Int) + off = (tgt : Int)) (kt : a = some o → Go K X M k n ws L tgt st) (kf : b = some o → Go K X M k n ws L (pc + 3) st) : Go K X M k n ws L pc (.int y :: .int x :: st) := fun C H locs ls hP hD hS hl => lv_icmp_gt C.1 C.2.1 d ht (fun c => kt (by first | rwa [if_pos c] at hF | rwa [if_neg c] at hF) C H locs ls hP hD hS hl) (fun c => kf (by first | rwa [if_pos c] at hF | rwa [if_neg c] at hF) C H locs ls hP hD hS hl)
theorem go_if_gt {β : Type} {a b : Option β} {o : β} {x : Int32} {off : Int} (tgt : Nat) (hF : (if 0 < x then a else b) = some o) (d : decode M.2.1 pc = .ok (.ifCond .gt off, 3)) (ht : (pc : Int) + off = (tgt : Int)) (kt : a = some o → Go K X M k n ws L tgt st) (kf : b = some o → Go K X M k n ws L (pc + 3) st) : Go K X M k n ws L pc (.int x :: st) := fun C H locs ls hP hD hS hl => lv_if_gt C.1 C.2.1 d ht (fun c => kt (by first | rwa [if_pos c] at hF | rwa [if_neg c] at hF) C H locs ls hP hD hS hl) (fun c => kf (by first | rwa [if_pos c] at hF | rwa [if_neg c] at hF) C H locs ls hP hD hS hl)
theorem go_icmp_le {β : Type} {a b : Option β} {o : β} {x y : Int32} {off : Int} (tgt : Nat) (hF : (if x ≤ y then a else b) = some o) (d : decode M.2.1 pc = .ok (.if_icmp .le off, 3)) (ht : (pc : Int) + off = (tgt : Int)) (kt : a = some o → Go K X M k n ws L tgt st) (kf : b = some o → Go K X M k n ws L (pc + 3) st) : Go K X M k n ws L pc (.int y :: .int x :: st) := fun C H locs ls hP hD hS hl => lv_icmp_le C.1 C.2.1 d ht (fun c => kt (by first | rwa [if_pos c] at hF | rwa [if_neg c] at hF) C H locs ls hP hD hS hl) (fun c => kf (by first | rwa [if_pos c] at hF | rwa [if_neg c] at hF) C H locs ls hP hD hS hl)
theorem go_if_le {β : Type} {a b : Option β} {o : β} {x : Int32} {off : Int} (tgt : Nat) (hF : (if x ≤ 0 then a else b) = some o) (d : decode M.2.1 pc = .ok (.ifCond .le off, 3)) (ht : (pc : Int) + off = (tgt : Int)) (kt : a = some o → Go K X M k n ws L tgt st) (kf : b = some o → Go K X M k n ws L (pc + 3) st) : Go K X M k n ws L pc (.int x :: st) := fun C H locs ls hP hD hS hl => lv_if_le C.1 C.2.1 d ht (fun c => kt (by first | rwa [if_pos c] at hF | rwa [if_neg c] at hF) C H locs ls hP hD hS hl) (fun c => kf (by first | rwa [if_pos c] at hF | rwa [if_neg c] at hF) C H locs ls hP hD hS hl)
theorem go_tIn {dflt lo hi : Int} {offs : Array Int} {len : Nat} {x : Int32} {off : Int} (tgt : Nat) (d : decode M.2.1 pc = .ok (.tableswitch dflt lo hi offs, len)) (h1 : ¬ x.toInt < lo) (h2 : ¬ hi < x.toInt) (ho : offs[(x.toInt - lo).toNat]? = some off) (ht : (pc : Int) + off = (tgt : Int)) (kk : Go K X M k n ws L tgt st) : Go K X M k n ws L pc (.int x :: st) := fun C H locs ls hP hD hS hl => lv_tableIn C.1 C.2.1 d h1 h2 ho ht (kk C H locs ls hP hD hS hl)
theorem go_tOut {dflt lo hi : Int} {offs : Array Int} {len : Nat} {x : Int32} (tgt : Nat) (d : decode M.2.1 pc = .ok (.tableswitch dflt lo hi offs, len)) (h : x.toInt < lo ∨ hi < x.toInt) (ht : (pc : Int) + dflt = (tgt : Int)) (kk : Go K X M k n ws L tgt st) : Go K X M k n ws L pc (.int x :: st) := fun C H locs ls hP hD hS hl => lv_tableOut C.1 C.2.1 d h ht (kk C H locs ls hP hD hS hl)
theorem go_lsw {dflt : Int} {ps : Array (Int × Int)} {len : Nat} {x : Int32} {off : Int} (tgt : Nat) (d : decode M.2.1 pc = .ok (.lookupswitch dflt ps, len)) (hp : (ps.toList.zip (ps.toList.drop 1)).all (fun (a, next) => a.1 < next.1) = true) (ho : Op.lookupswitch.offset ps.toList dflt x.toInt = off) (ht : (pc : Int) + off = (tgt : Int)) (kk : Go K X M k n ws L tgt st) : Go K X M k n ws L pc (.int x :: st) := fun C H locs ls hP hD hS hl => lv_lookup C.1 C.2.1 d hp ho ht (kk C H locs ls hP hD hS hl)
theorem go_get {C0 : String} {T : u_T} {N ix a : Nat} {fs : List Value} {v : Value} (ci q0 f : Nat) (hc : vwCl[ci]? = some (C0, T, N)) (hin : ∀ w ∈ u_ws C0 T N, w ∈ GW) (hk : f < N) (hw : Cond.fieldLink M.1.cls ix (T f).1 (T f).2.1 (T f).2.2.1 ∈ GW) (he : ws[q0]? = some (a, .inr (ci, fs))) (hv : fs[f]? = some v) (d : decode M.2.1 pc = .ok (.getfield ix, 3)) (kk : Go K X M k n ws L (pc + 3) (v :: st)) : Go K X M k n ws L pc (.ref a :: st) :=
  fun C H locs ls hP hD hS hl => va_get (D := gD K) C.1 C.2.1 C.2.2.2.2.1 hin C.2.2.2.1 C.2.2.2.2.2.2.2.2.1.1 hP q0 he hc f hk (C.2.2.2.2.1 _ hw) (fun _ h9 => h9) hv d (kk C H locs ls hP hD hS hl)
theorem go_put {C0 : String} {T : u_T} {N ix a : Nat} {fs : List Value} {v : Value} {ty0 : Nat → FieldType} (ci q0 f : Nat) (ws' : va_W) (hc : vwCl[ci]? = some (C0, T, N)) (hin : ∀ w ∈ u_ws C0 T N, w ∈ GW) (hty : ∀ k, k < N → parseFieldDescriptor (T k).2.2.1 = some (ty0 k)) (hnm : ∀ a, a < N → ∀ b, b < N → a ≠ b → (T a).2.1 ≠ (T b).2.1) (hk : f < N) (hw : Cond.fieldLink M.1.cls ix (T f).1 (T f).2.1 (T f).2.2.1 ∈ GW) (he : ws[q0]? = some (a, .inr (ci, fs))) (hfin : (T f).2.2.2 = false) (hn : narrow (ty0 f) v = v) (hfit : fits (ty0 f) v = true) (hl0 : f < fs.length) (hset : ws.set q0 (a, .inr (ci, fs.set f v)) = ws') (d : decode M.2.1 pc = .ok (.putfield ix, 3)) (kk : Go K X M k n ws' L (pc + 3) st) : Go K X M k n ws L pc (v :: .ref a :: st) :=
  fun C H locs ls hP hD hS hl => va_put (D := gD K) C.1 C.2.1 C.2.2.2.2.1 hin ty0 hty hnm C.2.2.2.1 C.2.2.2.2.2.2.2.2.1.1 hP hD hS q0 he hc f hk (C.2.2.2.2.1 _ hw) (fun _ h9 => h9) hfin (hty f hk) hn hfit hl0 d (fun H1 locs1 hP1 hD1 hS1 => by rw [hset] at hP1 hD1; exact kk C H1 locs1 ls hP1 hD1 hS1 hl)
theorem go_putF {C0 : String} {T : u_T} {N ix a : Nat} {fs : List Value} {v : Value} {ty0 : Nat → FieldType} (ci q0 f : Nat) (ws' : va_W) (hc : vwCl[ci]? = some (C0, T, N)) (hin : ∀ w ∈ u_ws C0 T N, w ∈ GW) (hty : ∀ k, k < N → parseFieldDescriptor (T k).2.2.1 = some (ty0 k)) (hnm : ∀ a, a < N → ∀ b, b < N → a ≠ b → (T a).2.1 ≠ (T b).2.1) (hk : f < N) (hw : Cond.fieldLink M.1.cls ix (T f).1 (T f).2.1 (T f).2.2.1 ∈ GW) (he : ws[q0]? = some (a, .inr (ci, fs))) (hfin : (T f).2.2.2 = true) (hini : M.1.name = "<init>") (hdecl : (T f).1 = M.1.cls) (hn : narrow (ty0 f) v = v) (hfit : fits (ty0 f) v = true) (hl0 : f < fs.length) (hset : ws.set q0 (a, .inr (ci, fs.set f v)) = ws') (d : decode M.2.1 pc = .ok (.putfield ix, 3)) (kk : Go K X M k n ws' L (pc + 3) st) : Go K X M k n ws L pc (v :: .ref a :: st) :=
  fun C H locs ls hP hD hS hl => va_putF (D := gD K) C.1 C.2.1 C.2.2.2.2.1 hin ty0 hty hnm C.2.2.2.1 C.2.2.2.2.2.2.2.2.1.1 hP hD hS q0 he hc f hk (C.2.2.2.2.1 _ hw) (fun _ h9 => h9) hfin (C.2.2.2.2.2.2.2.1 hini) hdecl (hty f hk) hn hfit hl0 d (fun H1 locs1 hP1 hD1 hS1 => by rw [hset] at hP1 hD1; exact kk C H1 locs1 ls hP1 hD1 hS1 hl)
theorem go_iald {β : Type} {F : Int32 → Option β} {o : β} {a m : Nat} {f : Nat → Int32} {i : Int32} (q0 : Nat) (hF : rd m f i F = some o) (he : ws[q0]? = some (a, .inl (kI K, m, .inl f))) (d : decode M.2.1 pc = .ok (.iaload, 1)) (kk : ∀ x : Int32, F x = some o → Go K X M k n ws L (pc + 1) (.int x :: st)) : Go K X M k n ws L pc (.int i :: .ref a :: st) :=
  fun C H locs ls hP hD hS hl => va_iald (D := gD K) C.1 C.2.1 C.2.2.2.2.2.2.2.2.1.1 hP q0 0 he rfl (rd_elim hF).1 d (kk _ (rd_elim hF).2 C H locs ls hP hD hS hl)
theorem go_zald {β : Type} {F : Int32 → Option β} {o : β} {a m : Nat} {f : Nat → Int32} {i : Int32} (q0 : Nat) (hF : rd m f i F = some o) (he : ws[q0]? = some (a, .inl (kZ K, m, .inl f))) (d : decode M.2.1 pc = .ok (.baload, 1)) (kk : ∀ x : Int32, F x = some o → Go K X M k n ws L (pc + 1) (.int x :: st)) : Go K X M k n ws L pc (.int i :: .ref a :: st) :=
  fun C H locs ls hP hD hS hl => va_zald (D := gD K) C.1 C.2.1 C.2.2.2.2.2.2.2.2.1.1 hP q0 1 he rfl (rd_elim hF).1 d (kk _ (rd_elim hF).2 C H locs ls hP hD hS hl)
theorem go_iast {β : Type} {F : (Nat → Int32) → Option β} {o : β} {a m : Nat} {f : Nat → Int32} {i x : Int32} (q0 : Nat) (ws' : (Nat → Int32) → va_W) (hF : wr m f i x F = some o) (he : ws[q0]? = some (a, .inl (kI K, m, .inl f))) (hset : ∀ g, ws.set q0 (a, .inl (kI K, m, .inl g)) = ws' g) (d : decode M.2.1 pc = .ok (.iastore, 1)) (kk : ∀ g : Nat → Int32, F g = some o → Go K X M k n (ws' g) L (pc + 1) st) : Go K X M k n ws L pc (.int x :: .int i :: .ref a :: st) :=
  fun C H locs ls hP hD hS hl => va_iast (D := gD K) C.1 C.2.1 C.2.2.2.2.2.2.2.2.1.1 hP hD hS q0 0 he rfl (wr_elim hF).1 d (fun H1 locs1 hP1 hD1 hS1 => by rw [hset] at hP1 hD1; exact kk _ (wr_elim hF).2 C H1 locs1 ls hP1 hD1 hS1 hl)
theorem go_zast {β : Type} {F : (Nat → Int32) → Option β} {o : β} {a m : Nat} {f : Nat → Int32} {i x : Int32} (q0 : Nat) (ws' : (Nat → Int32) → va_W) (hF : wr m f i (vp_nar .boolean x) F = some o) (he : ws[q0]? = some (a, .inl (kZ K, m, .inl f))) (hset : ∀ g, ws.set q0 (a, .inl (kZ K, m, .inl g)) = ws' g) (d : decode M.2.1 pc = .ok (.bastore, 1)) (kk : ∀ g : Nat → Int32, F g = some o → Go K X M k n (ws' g) L (pc + 1) st) : Go K X M k n ws L pc (.int x :: .int i :: .ref a :: st) :=
  fun C H locs ls hP hD hS hl => va_zast (D := gD K) C.1 C.2.1 C.2.2.2.2.2.2.2.2.1.1 hP hD hS q0 1 he rfl (wr_elim hF).1 d (fun H1 locs1 hP1 hD1 hS1 => by rw [hset] at hP1 hD1; exact kk _ (wr_elim hF).2 C H1 locs1 ls hP1 hD1 hS1 hl)
theorem go_alen {a m : Nat} {f : Nat → Int32} {v : Int32} (q0 : Nat) (he : ws[q0]? = some (a, .inl (kI K, m, .inl f))) (hv : Int32.ofNat m = v) (d : decode M.2.1 pc = .ok (.arraylength, 1)) (kk : Go K X M k n ws L (pc + 1) (.int v :: st)) : Go K X M k n ws L pc (.ref a :: st) :=
  fun C H locs ls hP hD hS hl => va_alen (D := gD K) C.1 C.2.1 C.2.2.2.2.2.2.2.2.1.1 hP q0 0 he rfl hv d (kk C H locs ls hP hD hS hl)
theorem go_iret {β : Type} {wi : va_W} {Om : β → Option Value → va_W → Prop} {o o' : β} {v : Int32} {ty : FieldType} (hR : gR K X M wi (Om o)) (hF : some o' = some o) (d : decode M.2.1 pc = .ok (.ireturn, 1)) (hr : M.2.2.2.1 = some ty) (hn : narrow ty (.int v) = .int v) (h1 : k ≤ M.2.2.2.2.cells) (h2 : n ≤ M.2.2.2.2.slots) (hO : Om o' (some (.int v)) ws) : Go K X M k n ws L pc [.int v] := by
  obtain rfl := Option.some.inj hF
  obtain ⟨hA, hQ⟩ := hR
  intro C H locs ls hP hD hS hl
  refine W.widen h1 h2 ?_
  rw [hQ]
  rw [hA] at hD hS
  exact W.zret C.1 C.2.1 (C.2.2.2.2.2.1.trans hr) hn (fun t ht hW => ⟨⟨_, ws, rfl, hO, by rw [ht]; exact hP, hD⟩, hS.F ht⟩) hS.2.2 d C.2.2.2.2.2.2.1
theorem go_vret {β : Type} {wi : va_W} {Om : β → Option Value → va_W → Prop} {o o' : β} (hR : gR K X M wi (Om o)) (hF : some o' = some o) (d : decode M.2.1 pc = .ok (.return_, 1)) (hr : M.2.2.2.1 = none) (h1 : k ≤ M.2.2.2.2.cells) (h2 : n ≤ M.2.2.2.2.slots) (hO : Om o' none ws) : Go K X M k n ws L pc [] := by
  obtain rfl := Option.some.inj hF
  obtain ⟨hA, hQ⟩ := hR
  intro C H locs ls hP hD hS hl
  refine W.widen h1 h2 ?_
  rw [hQ]
  rw [hA] at hD hS
  exact W.vret C.1 C.2.1 (C.2.2.2.2.2.1.trans hr) (fun t ht hW => ⟨⟨_, ws, rfl, hO, by rw [ht]; exact hP, hD⟩, hS.F ht⟩) hS.2.2 d C.2.2.2.2.2.2.1
def gOk (M' : gM) (c : Nat) : Prop := Cond.code M'.1 M'.2.1 M'.2.2.1 M'.2.2.2.1 ∈ GW ∧ Cond.initialized M'.1.cls ∈ GW ∧ (M'.1.cls ≠ "java/lang/invoke/MethodHandle" ∧ M'.1.cls ≠ "java/lang/invoke/VarHandle" ∧ (parseMethodDescriptor M'.1.desc).map (fun d => d.parameters.length) = some c)
def gOkS (M' : gM) (c : Nat) : Prop := gOk M' c ∧ Cond.static M'.1 ∈ GW
def gOkV (M' : gM) (c : Nat) : Prop := gOk M' c ∧ Cond.instanceMethod M'.1 ∈ GW ∧ Cond.selects M'.1.cls M'.1 M'.1 ∈ GW
def gOkI (M' : gM) (c : Nat) : Prop := gOk M' c ∧ Cond.instanceMethod M'.1 ∈ GW ∧ M'.1.name = "<init>" ∧ M'.2.2.2.1 = none
def gFit (M M' : gM) : Prop := M'.2.2.2.2.frames + 1 ≤ M.2.2.2.2.frames ∧ 8 + (M'.2.2.1 + 11) + M'.2.2.2.2.locals ≤ M.2.2.2.2.locals

theorem go_callS {M' : gM} {c ix : Nat} {wi wr : va_W} {O : Option Value → va_W → Prop} {As rest : List Value} (hk : Kn K M' (As) wi O) (ok : gOkS M' c) (fit : gFit M M') (hf : k + M'.2.2.2.2.cells ≤ M.2.2.2.2.cells ∧ n + M'.2.2.2.2.slots ≤ M.2.2.2.2.slots) (hl : Cond.methodLink M.1.cls ix M'.1 ∈ GW) (hn : As.length = c) (hst : st = As.reverse ++ rest) (hW : (rest.map fun v => v.category).sum ≤ 8) (d : decode M.2.1 pc = .ok (.invokestatic ix, 3)) (isC isR : List Nat) (hC : isC.map (fun i => ws[i]?) = wi.map some) (hR : isR.map (fun i => ws[i]?) = wr.map some) (hnc : va_nd isC = true) (hnr : va_nd isR = true) (hdis : ∀ i ∈ isR, i ∉ isC) (kk : ∀ (r : Option Value) (wo : va_W), O r wo → Go K X M (k + M'.2.2.2.2.cells) (n + M'.2.2.2.2.slots) (wr ++ wo) L (pc + 3) (r.toList ++ rest)) : Go K X M k n ws L pc st := by
  subst hst
  intro C H locs ls hP hD hS hl0
  have hx := C.1
  have hb := C.2.1
  have hml := C.2.2.1
  have hown := C.2.2.2.1
  have hts := C.2.2.2.2.1
  have hE := C.2.2.2.2.2.2.2.2.1
  have hA := C.2.2.2.2.2.2.2.2.2
  have hPc := PC_at (As := As) C hP hD isC hC hnc
  have cw := And.intro (callB_of (Ts := GW) (own := M.1.cls) (index := ix) (R := M.2.2.2.2) (args := Xa X) (s := Xs X) (rm := M'.2.2.2.2) c hts (GW_cons ok.1.1) rfl rfl rfl (hts _ ok.1.2.1) (hts _ hl) ok.1.2.2 fit) (hts _ ok.2)
  exact w_call (a := (As).toArray) (va_runS (As := As) (rest := rest) (g := F0 (Xm X) pc ls (As.reverse ++ rest)) (Ts := GW) ⟨hx, hb, hml, hown, hts⟩ (hk H.size) cw ⟨PC_blind, hPc⟩ rfl hn hl0.1 rfl (lv_room hW) d hf) hP hD hS hA isC isR hC hR hnr hdis (fun r wo hO H1 locs1 hP1 hD1 hS1 => kk r wo hO C H1 locs1 ls hP1 hD1 hS1 hl0)
theorem go_callSN {M' : gM} {c ix : Nat} {wi wr : va_W} {O : Option Value → va_W → Prop} {As rest : List Value} {host : String} (hk : Kn K M' (As) wi O) (ok : gOkS M' c) (fit : gFit M M') (hf : k + M'.2.2.2.2.cells ≤ M.2.2.2.2.cells ∧ n + M'.2.2.2.2.slots ≤ M.2.2.2.2.slots) (hl : (M.1.cls, ix, M'.1, host) ∈ gN) (hn : As.length = c) (hst : st = As.reverse ++ rest) (hW : (rest.map fun v => v.category).sum ≤ 8) (d : decode M.2.1 pc = .ok (.invokestatic ix, 3)) (isC isR : List Nat) (hC : isC.map (fun i => ws[i]?) = wi.map some) (hR : isR.map (fun i => ws[i]?) = wr.map some) (hnc : va_nd isC = true) (hnr : va_nd isR = true) (hdis : ∀ i ∈ isR, i ∉ isC) (kk : ∀ (r : Option Value) (wo : va_W), O r wo → Go K X M (k + M'.2.2.2.2.cells) (n + M'.2.2.2.2.slots) (wr ++ wo) L (pc + 3) (r.toList ++ rest)) : Go K X M k n ws L pc st := by
  subst hst
  intro C H locs ls hP hD hS hl0
  have hx := C.1
  have hb := C.2.1
  have hml := C.2.2.1
  have hown := C.2.2.2.1
  have hts := C.2.2.2.2.1
  have hE := C.2.2.2.2.2.2.2.2.1
  have hA := C.2.2.2.2.2.2.2.2.2
  have hPc := PC_at (As := As) C hP hD isC hC hnc
  have cw := And.intro (va_cnB (Ts := GW) (own := M.1.cls) (index := ix) (R := M.2.2.2.2) (args := Xa X) (s := Xs X) (rm := M'.2.2.2.2) c hts (GW_cons ok.1.1) rfl rfl rfl (hE.2 _ hl) (hts _ ok.1.2.1) ok.1.2.2 fit) (And.intro (hts _ ok.2) trivial)
  exact w_call (a := (As).toArray) (va_runSN (As := As) (rest := rest) (g := F0 (Xm X) pc ls (As.reverse ++ rest)) (Ts := GW) ⟨hx, hb, hml, hown, hts⟩ (hk H.size) cw ⟨PC_blind, hPc⟩ rfl hn hl0.1 rfl (lv_room hW) d hf) hP hD hS hA isC isR hC hR hnr hdis (fun r wo hO H1 locs1 hP1 hD1 hS1 => kk r wo hO C H1 locs1 ls hP1 hD1 hS1 hl0)
theorem go_callV {M' : gM} {c ix : Nat} {wi wr : va_W} {O : Option Value → va_W → Prop} {As rest : List Value} {b : Nat} {T1 : u_T} {N1 : Nat} {fs1 : List Value} (ci1 qr : Nat) (hcr : vwCl[ci1]? = some (M'.1.cls, T1, N1)) (hre : ws[qr]? = some (b, .inr (ci1, fs1))) (hk : Kn K M' (.ref b :: As) wi O) (ok : gOkV M' c) (fit : gFit M M') (hf : k + M'.2.2.2.2.cells ≤ M.2.2.2.2.cells ∧ n + M'.2.2.2.2.slots ≤ M.2.2.2.2.slots) (hl : Cond.methodLink M.1.cls ix M'.1 ∈ GW) (hn : As.length = c) (hst : st = (As.reverse ++ [Value.ref b]) ++ rest) (hW : (rest.map fun v => v.category).sum ≤ 8) (d : decode M.2.1 pc = .ok (.invokevirtual ix, 3)) (isC isR : List Nat) (hC : isC.map (fun i => ws[i]?) = wi.map some) (hR : isR.map (fun i => ws[i]?) = wr.map some) (hnc : va_nd isC = true) (hnr : va_nd isR = true) (hdis : ∀ i ∈ isR, i ∉ isC) (kk : ∀ (r : Option Value) (wo : va_W), O r wo → Go K X M (k + M'.2.2.2.2.cells) (n + M'.2.2.2.2.slots) (wr ++ wo) L (pc + 3) (r.toList ++ rest)) : Go K X M k n ws L pc st := by
  subst hst
  intro C H locs ls hP hD hS hl0
  have hx := C.1
  have hb := C.2.1
  have hml := C.2.2.1
  have hown := C.2.2.2.1
  have hts := C.2.2.2.2.1
  have hE := C.2.2.2.2.2.2.2.2.1
  have hA := C.2.2.2.2.2.2.2.2.2
  have hPc := PC_at (As := .ref b :: As) C hP hD isC hC hnc
  have cw := And.intro (callB_of (Ts := GW) (own := M.1.cls) (index := ix) (R := M.2.2.2.2) (args := Xa X) (s := Xs X) (rm := M'.2.2.2.2) c hts (GW_cons ok.1.1) rfl rfl rfl (hts _ ok.1.2.1) (hts _ hl) ok.1.2.2 fit) (And.intro (hts _ ok.2.1) (hts _ ok.2.2))
  refine W.eq (g2 := F0 (Xm X) pc ls (As.reverse ++ .ref b :: rest)) (by simp) ?_
  exact w_call (a := (.ref b :: As).toArray) (va_runV (As := As) (rest := rest) (g := F0 (Xm X) pc ls (As.reverse ++ .ref b :: rest)) (Ts := GW) ⟨hx, hb, hml, hown, hts⟩ (hk H.size) cw ⟨PC_blind, va_recv hE.1 hP hcr hre, hPc⟩ rfl hn hl0.1 rfl (lv_room hW) d hf) hP hD hS hA isC isR hC hR hnr hdis (fun r wo hO H1 locs1 hP1 hD1 hS1 => kk r wo hO C H1 locs1 ls hP1 hD1 hS1 hl0)
theorem go_callVN {M' : gM} {c ix : Nat} {wi wr : va_W} {O : Option Value → va_W → Prop} {As rest : List Value} {host : String} {b : Nat} {T1 : u_T} {N1 : Nat} {fs1 : List Value} (ci1 qr : Nat) (hcr : vwCl[ci1]? = some (M'.1.cls, T1, N1)) (hre : ws[qr]? = some (b, .inr (ci1, fs1))) (hk : Kn K M' (.ref b :: As) wi O) (ok : gOkV M' c) (fit : gFit M M') (hf : k + M'.2.2.2.2.cells ≤ M.2.2.2.2.cells ∧ n + M'.2.2.2.2.slots ≤ M.2.2.2.2.slots) (hl : (M.1.cls, ix, M'.1, host) ∈ gN) (hn : As.length = c) (hst : st = (As.reverse ++ [Value.ref b]) ++ rest) (hW : (rest.map fun v => v.category).sum ≤ 8) (d : decode M.2.1 pc = .ok (.invokevirtual ix, 3)) (isC isR : List Nat) (hC : isC.map (fun i => ws[i]?) = wi.map some) (hR : isR.map (fun i => ws[i]?) = wr.map some) (hnc : va_nd isC = true) (hnr : va_nd isR = true) (hdis : ∀ i ∈ isR, i ∉ isC) (kk : ∀ (r : Option Value) (wo : va_W), O r wo → Go K X M (k + M'.2.2.2.2.cells) (n + M'.2.2.2.2.slots) (wr ++ wo) L (pc + 3) (r.toList ++ rest)) : Go K X M k n ws L pc st := by
  subst hst
  intro C H locs ls hP hD hS hl0
  have hx := C.1
  have hb := C.2.1
  have hml := C.2.2.1
  have hown := C.2.2.2.1
  have hts := C.2.2.2.2.1
  have hE := C.2.2.2.2.2.2.2.2.1
  have hA := C.2.2.2.2.2.2.2.2.2
  have hPc := PC_at (As := .ref b :: As) C hP hD isC hC hnc
  have cw := And.intro (va_cnB (Ts := GW) (own := M.1.cls) (index := ix) (R := M.2.2.2.2) (args := Xa X) (s := Xs X) (rm := M'.2.2.2.2) c hts (GW_cons ok.1.1) rfl rfl rfl (hE.2 _ hl) (hts _ ok.1.2.1) ok.1.2.2 fit) (And.intro (hts _ ok.2.1) (hts _ ok.2.2))
  refine W.eq (g2 := F0 (Xm X) pc ls (As.reverse ++ .ref b :: rest)) (by simp) ?_
  exact w_call (a := (.ref b :: As).toArray) (va_runVN (As := As) (rest := rest) (g := F0 (Xm X) pc ls (As.reverse ++ .ref b :: rest)) (Ts := GW) ⟨hx, hb, hml, hown, hts⟩ (hk H.size) cw ⟨PC_blind, va_recv hE.1 hP hcr hre, hPc⟩ rfl hn hl0.1 rfl (lv_room hW) d hf) hP hD hS hA isC isR hC hR hnr hdis (fun r wo hO H1 locs1 hP1 hD1 hS1 => kk r wo hO C H1 locs1 ls hP1 hD1 hS1 hl0)
theorem go_callI {y' : MethodName} {b' : ByteArray} {m' : Nat} {rm' : Room} {c ix b : Nat} {wi wr : va_W} {O : Option Value → va_W → Prop} {As rest : List Value} (hk : Kn K (y', b', m', none, rm') (.ref b :: As) wi O) (ok : gOkI (y', b', m', none, rm') c) (fit : gFit M (y', b', m', none, rm')) (hf : k + rm'.cells ≤ M.2.2.2.2.cells ∧ n + rm'.slots ≤ M.2.2.2.2.slots) (hl : Cond.methodLink M.1.cls ix y' ∈ GW) (hn : As.length = c) (hst : st = (As.reverse ++ [Value.ref b]) ++ rest) (hW : (rest.map fun v => v.category).sum ≤ 8) (d : decode M.2.1 pc = .ok (.invokespecial ix, 3)) (isC isR : List Nat) (hC : isC.map (fun i => ws[i]?) = wi.map some) (hR : isR.map (fun i => ws[i]?) = wr.map some) (hnc : va_nd isC = true) (hnr : va_nd isR = true) (hdis : ∀ i ∈ isR, i ∉ isC) (kk : ∀ (r : Option Value) (wo : va_W), O r wo → Go K X M (k + rm'.cells) (n + rm'.slots) (wr ++ wo) L (pc + 3) (r.toList ++ rest)) : Go K X M k n ws L pc st := by
  subst hst
  intro C H locs ls hP hD hS hl0
  have hx := C.1
  have hb := C.2.1
  have hml := C.2.2.1
  have hown := C.2.2.2.1
  have hts := C.2.2.2.2.1
  have hE := C.2.2.2.2.2.2.2.2.1
  have hA := C.2.2.2.2.2.2.2.2.2
  have hPc := PC_at (As := .ref b :: As) C hP hD isC hC hnc
  have cw := And.intro (callB_of (Ts := GW) (own := M.1.cls) (index := ix) (R := M.2.2.2.2) (args := Xa X) (s := Xs X) (rm := rm') c hts (GW_cons ok.1.1) rfl rfl rfl (hts _ ok.1.2.1) (hts _ hl) ok.1.2.2 fit) (And.intro ok.2.2.1 (hts _ ok.2.1))
  refine W.eq (g2 := F0 (Xm X) pc ls (As.reverse ++ .ref b :: rest)) (by simp) ?_
  exact w_call (a := (.ref b :: As).toArray) (va_runI (As := As) (rest := rest) (g := F0 (Xm X) pc ls (As.reverse ++ .ref b :: rest)) (Ts := GW) ⟨hx, hb, hml, hown, hts⟩ (hk H.size) cw ⟨PC_blind, hPc⟩ rfl hn hl0.1 rfl (lv_room hW) d hf) hP hD hS hA isC isR hC hR hnr hdis (fun r wo hO H1 locs1 hP1 hD1 hS1 => kk r wo hO C H1 locs1 ls hP1 hD1 hS1 hl0)
theorem go_callIN {y' : MethodName} {b' : ByteArray} {m' : Nat} {rm' : Room} {c ix b : Nat} {wi wr : va_W} {O : Option Value → va_W → Prop} {As rest : List Value} {host : String} (hk : Kn K (y', b', m', none, rm') (.ref b :: As) wi O) (ok : gOkI (y', b', m', none, rm') c) (fit : gFit M (y', b', m', none, rm')) (hf : k + rm'.cells ≤ M.2.2.2.2.cells ∧ n + rm'.slots ≤ M.2.2.2.2.slots) (hl : (M.1.cls, ix, y', host) ∈ gN) (hn : As.length = c) (hst : st = (As.reverse ++ [Value.ref b]) ++ rest) (hW : (rest.map fun v => v.category).sum ≤ 8) (d : decode M.2.1 pc = .ok (.invokespecial ix, 3)) (isC isR : List Nat) (hC : isC.map (fun i => ws[i]?) = wi.map some) (hR : isR.map (fun i => ws[i]?) = wr.map some) (hnc : va_nd isC = true) (hnr : va_nd isR = true) (hdis : ∀ i ∈ isR, i ∉ isC) (kk : ∀ (r : Option Value) (wo : va_W), O r wo → Go K X M (k + rm'.cells) (n + rm'.slots) (wr ++ wo) L (pc + 3) (r.toList ++ rest)) : Go K X M k n ws L pc st := by
  subst hst
  intro C H locs ls hP hD hS hl0
  have hx := C.1
  have hb := C.2.1
  have hml := C.2.2.1
  have hown := C.2.2.2.1
  have hts := C.2.2.2.2.1
  have hE := C.2.2.2.2.2.2.2.2.1
  have hA := C.2.2.2.2.2.2.2.2.2
  have hPc := PC_at (As := .ref b :: As) C hP hD isC hC hnc
  have cw := And.intro (va_cnB (Ts := GW) (own := M.1.cls) (index := ix) (R := M.2.2.2.2) (args := Xa X) (s := Xs X) (rm := rm') c hts (GW_cons ok.1.1) rfl rfl rfl (hE.2 _ hl) (hts _ ok.1.2.1) ok.1.2.2 fit) (And.intro ok.2.2.1 (hts _ ok.2.1))
  refine W.eq (g2 := F0 (Xm X) pc ls (As.reverse ++ .ref b :: rest)) (by simp) ?_
  exact w_call (a := (.ref b :: As).toArray) (va_runIN (As := As) (rest := rest) (g := F0 (Xm X) pc ls (As.reverse ++ .ref b :: rest)) (Ts := GW) ⟨hx, hb, hml, hown, hts⟩ (hk H.size) cw ⟨PC_blind, hPc⟩ rfl hn hl0.1 rfl (lv_room hW) d hf) hP hD hS hA isC isR hC hR hnr hdis (fun r wo hO H1 locs1 hP1 hD1 hS1 => kk r wo hO C H1 locs1 ls hP1 hD1 hS1 hl0)
end Rows

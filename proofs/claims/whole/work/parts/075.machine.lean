/-! AN ABSTRACT MACHINE: the program of part 03 over a heap that is a list of cells (class number or array kind, contents).
Addresses are places in that list; from zX on they are cells that stood before the law began (String constants, their byte arrays, the script). -/
abbrev zH : Type := List (Nat × List Value)
/-- method, place, locals, operand stack, heap -/
abbrev zC : Type := Nat × Nat × List Value × List Value × zH
abbrev zR : Type := Option Value × zH
/-- what one instruction does: it ends the method; it goes on; it calls (the callee's start, and where the caller goes on) -/
abbrev zA : Type := Option (zR ⊕ (zC ⊕ (zC × (Nat × Nat × List Value × List Value))))
/-- a local that holds nothing, or the second half of a long -/
def zJ : Value := .retAddr 0
def zX : Nat := 1000000
def zB (s : String) : List Value := s.toList.map (fun c => .int (Int32.ofNat c.toNat))
def zE (xs : Option (List Value)) (a : Nat) : Option (Nat × List Value) :=
  if a < 6 then some (13, [.ref (zX + 10 + a), .int 0])
  else if a = 6 then xs.map (fun l => (100, l))
  else if a < 10 then none
  else (zS[a - 10]?).map (fun s => (103, zB s))
/-- a cell -/
def zr (xs : Option (List Value)) (w : zH) (a : Nat) : Option (Nat × List Value) := if a < zX then w[a]? else zE xs (a - zX)
def zfty (n : Nat) : FieldType :=
  if n < 100 then tyX0 n else if n < 200 then tyX1 (n - 100) else if n < 300 then tyX2 (n - 200) else if n < 400 then tyX3 (n - 300) else if n < 500 then tyX4 (n - 400)
  else if n < 600 then tyX5 (n - 500) else if n < 700 then tyX6 (n - 600) else if n < 800 then tyX7 (n - 700) else if n < 900 then tyX8 (n - 800) else if n < 1000 then tyX9 (n - 900)
  else if n < 1100 then tyX10 (n - 1000) else if n < 1200 then tyX11 (n - 1100) else tyX12 (n - 1200)
/-- how many fields a class has -/
def znf : List Nat := [6, 5, 3, 3, 7, 4, 3, 4, 4, 7, 3, 20, 51]
/-- the fields of a new object -/
def znew (k : Nat) : List Value := (List.range (znf.getD k 0)).map (fun j => defaultValue (zfty (100 * k + j)))
/-- how many words the values take -/
def zcat (st : List Value) : Nat := (st.map fun v => v.category).sum
def zsl (vs : List Value) : List Value := vs.flatMap fun v => if v.category = 2 then [v, zJ] else [v]
def zloc (n : Nat) (vs : List Value) : List Value := zsl vs ++ List.replicate (n - (zsl vs).length) zJ
def zgo (y pc : Nat) (ls st : List Value) (w : zH) : zA := some (.inr (.inl (y, pc, ls, st, w)))
def zj (pc : Nat) (off : Int) : Option Nat := if 0 ≤ (pc : Int) + off then some ((pc : Int) + off).toNat else none
def zjmp (y pc : Nat) (off : Int) (ls st : List Value) (w : zH) : zA := match zj pc off with
  | some t => zgo y t ls st w
  | none => none
def zcmp (c : Jvm.ClassFile.Cond) (x y : Int32) : Bool := match c with
  | .eq => decide (x = y)
  | .ne => decide (¬ x = y)
  | .lt => decide (x < y)
  | .ge => decide (y ≤ x)
  | .gt => decide (y < x)
  | .le => decide (x ≤ y)
/-- int by int -/
def zi2 (f : Int32 → Int32 → Int32) (y pc : Nat) (ls st : List Value) (w : zH) : zA := match st with
  | .int b :: .int a :: r => zgo y (pc + 1) ls (.int (f a b) :: r) w
  | _ => none
def zl2 (f : Int64 → Int64 → Int64) (y pc : Nat) (ls st : List Value) (w : zH) : zA := match st with
  | .long b :: .long a :: r => zgo y (pc + 1) ls (.long (f a b) :: r) w
  | _ => none
def zi1 (f : Int32 → Value) (y pc : Nat) (ls st : List Value) (w : zH) : zA := match st with
  | .int a :: r => zgo y (pc + 1) ls (f a :: r) w
  | _ => none
def zref (v : Value) : Bool := match v with
  | .null => true
  | .ref _ => true
  | _ => false
def zint (v : Value) : Bool := match v with
  | .int _ => true
  | _ => false
def zlong (v : Value) : Bool := match v with
  | .long _ => true
  | _ => false
def zld (ok : Value → Bool) (i d : Nat) (y pc : Nat) (ls st : List Value) (w : zH) : zA := match ls[i]? with
  | some v => if ok v = true then zgo y (pc + d) ls (v :: st) w else none
  | none => none
/-- the local before place i holds no long -/
def zfree (ls : List Value) (i : Nat) : Bool := match i with
  | 0 => true
  | i + 1 => match ls[i]? with
    | some v => decide (v.category = 1)
    | none => true
def zst (ok : Value → Bool) (i d : Nat) (y pc : Nat) (ls st : List Value) (w : zH) : zA := match st with
  | v :: r => if ok v = true ∧ i < ls.length ∧ zfree ls i = true then zgo y (pc + d) (ls.set i v) r w else none
  | _ => none
def zstl (i d : Nat) (y pc : Nat) (ls st : List Value) (w : zH) : zA := match st with
  | .long v :: r => if i + 1 < ls.length ∧ zfree ls i = true then zgo y (pc + d) ((ls.set i (.long v)).set (i + 1) zJ) r w else none
  | _ => none
/-- an array's element -/
def zald (xs : Option (List Value)) (kd : Nat → Bool) (ok : Value → Bool) (y pc : Nat) (ls st : List Value) (w : zH) : zA := match st with
  | .int j :: .ref a :: r => match zr xs w a with
    | some (k, vs) => if kd k = true ∧ ¬ j < 0 then match vs[j.toNatClampNeg]? with
        | some v => if ok v = true then zgo y (pc + 1) ls (v :: r) w else none
        | none => none
      else none
    | none => none
  | _ => none
def zast (kd : Nat → Value → Bool) (f : Value → Value) (y pc : Nat) (ls st : List Value) (w : zH) : zA := match st with
  | v :: .int j :: .ref a :: r => if a < zX then match w[a]? with
    | some (k, vs) => if kd k v = true ∧ ¬ j < 0 ∧ j.toNatClampNeg < vs.length then zgo y (pc + 1) ls r (w.set a (k, vs.set j.toNatClampNeg (f v))) else none
    | none => none
    else none
  | _ => none
/-- a reference may lie in an array of references of this kind -/
def zastq (w : zH) (k : Nat) (v : Value) : Bool := decide (200 ≤ k) && match v with
  | .null => true
  | .ref b => decide (b < zX) && match w[b]? with
    | some (c, _) => decide (c + 200 = k)
    | none => false
  | _ => false
def zgetf (xs : Option (List Value)) (n : Nat) (y pc : Nat) (ls st : List Value) (w : zH) : zA := match st with
  | .ref a :: r => match zr xs w a with
    | some (k, vs) => if k = n / 100 then match vs[n % 100]? with
        | some v => zgo y (pc + 3) ls (v :: r) w
        | none => none
      else none
    | none => none
  | _ => none
def zputf (n : Nat) (y pc : Nat) (ls st : List Value) (w : zH) : zA := match st with
  | v :: .ref a :: r => if a < zX then match w[a]? with
    | some (k, vs) => if k = n / 100 ∧ n % 100 < vs.length ∧ fits (zfty n) v = true ∧ narrow (zfty n) v = v then zgo y (pc + 3) ls r (w.set a (k, vs.set (n % 100) v)) else none
    | none => none
    else none
  | _ => none
/-- room for one cell more -/
def znw (c : Nat × List Value) (d : Nat) (y pc : Nat) (ls st : List Value) (w : zH) : zA :=
  if w.length + 1 < zX then zgo y (pc + d) ls (.ref w.length :: st) (w ++ [c]) else none
def znwa (k : Nat) (v : Value) (d : Nat) (y pc : Nat) (ls st : List Value) (w : zH) : zA := match st with
  | .int n :: r => if ¬ n < 0 ∧ n ≤ 65536 then znw (k, List.replicate n.toNatClampNeg v) d y pc ls r w else none
  | _ => none
/-- a call: the callee's number, its values in order, what is left on the stack -/
def zcall (n : Nat) (vs rest : List Value) (y pc : Nat) (ls : List Value) (w : zH) : zA :=
  if zcat rest ≤ 8 ∧ (zsl vs).length ≤ (zM.getD n (0, 0, 0)).2.2 then some (.inr (.inr ((n, 0, zloc (zM.getD n (0, 0, 0)).2.2 vs, [], w), y, pc + 3, ls, rest))) else none
/-- the class of the cell that is called is the method's -/
def zrc (xs : Option (List Value)) (n : Nat) (w : zH) (v : Value) : Bool := match v with
  | .ref a => match zr xs w a with
    | some (k, _) => decide (k = (zM.getD n (99, 0, 0)).1)
    | none => false
  | _ => false
def zinv (xs : Option (List Value)) (n : Nat) (y pc : Nat) (ls st : List Value) (w : zH) : zA :=
  match st.drop (zM.getD n (0, 0, 0)).2.1 with
  | v :: rest => if zrc xs n w v = true then zcall n (v :: (st.take (zM.getD n (0, 0, 0)).2.1).reverse) rest y pc ls w else none
  | [] => none
def zinvS (n : Nat) (y pc : Nat) (ls st : List Value) (w : zH) : zA :=
  if (zM.getD n (0, 0, 0)).1 = 99 ∧ (zM.getD n (0, 0, 0)).2.1 ≤ st.length then zcall n (st.take (zM.getD n (0, 0, 0)).2.1).reverse (st.drop (zM.getD n (0, 0, 0)).2.1) y pc ls w else none
/-- System.arraycopy of ints -/
def zcpy (f g : List Value) (sp dp n : Nat) : List Value := (List.range g.length).map (fun k => if dp ≤ k ∧ k < dp + n then f.getD (sp + (k - dp)) zJ else g.getD k zJ)
def zacp (y pc : Nat) (ls st : List Value) (w : zH) : zA := match st with
  | .int n :: .int dp :: .ref b :: .int sp :: .ref a :: r => if a < zX ∧ b < zX ∧ ¬ sp < 0 ∧ ¬ dp < 0 ∧ ¬ n < 0 ∧ zcat r ≤ 8 then match w[a]?, w[b]? with
      | some (100, f), some (100, g) => if sp.toNatClampNeg + n.toNatClampNeg ≤ f.length ∧ dp.toNatClampNeg + n.toNatClampNeg ≤ g.length then zgo y (pc + 3) ls r (w.set b (100, zcpy f g sp.toNatClampNeg dp.toNatClampNeg n.toNatClampNeg)) else none
      | _, _ => none
    else none
  | _ => none
/-- one instruction -/
def zI (xs : Option (List Value)) (y pc : Nat) (ls st : List Value) (w : zH) (i : Instr) : zA := match i with
  | .iconst n => zgo y (pc + 1) ls (.int (Int32.ofInt n) :: st) w
  | .bipush n => zgo y (pc + 2) ls (.int (Int32.ofInt n) :: st) w
  | .sipush n => zgo y (pc + 3) ls (.int (Int32.ofInt n) :: st) w
  | .lconst n => zgo y (pc + 1) ls (.long (Int64.ofNat n) :: st) w
  | .ldc2_w n => zgo y (pc + 3) ls (.long (Int64.ofNat n) :: st) w
  | .ldc n => zgo y (pc + 3) ls (.ref (zX + n) :: st) w
  | .aconst_null => zgo y (pc + 1) ls (.null :: st) w
  | .getstatic n => match n with
    | 0 => zgo y (pc + 3) ls (.int 1 :: st) w
    | 1 => zgo y (pc + 3) ls (.ref (zX + 20) :: st) w
    | _ => none
  | .iload n => zld zint n 2 y pc ls st w
  | .iload_n n => zld zint n 1 y pc ls st w
  | .lload n => zld zlong n 2 y pc ls st w
  | .lload_n n => zld zlong n 1 y pc ls st w
  | .aload n => zld zref n 2 y pc ls st w
  | .aload_n n => zld zref n 1 y pc ls st w
  | .istore n => zst zint n 2 y pc ls st w
  | .istore_n n => zst zint n 1 y pc ls st w
  | .astore n => zst zref n 2 y pc ls st w
  | .astore_n n => zst zref n 1 y pc ls st w
  | .lstore n => zstl n 2 y pc ls st w
  | .lstore_n n => zstl n 1 y pc ls st w
  | .iinc k n => match ls[k]? with
    | some (.int x) => zgo y (pc + 3) (ls.set k (.int (x + Int32.ofInt n))) st w
    | _ => none
  | .iadd => zi2 (fun a b => a + b) y pc ls st w
  | .isub => zi2 (fun a b => a - b) y pc ls st w
  | .imul => zi2 (fun a b => a * b) y pc ls st w
  | .iand => zi2 (fun a b => a &&& b) y pc ls st w
  | .ior => zi2 (fun a b => a ||| b) y pc ls st w
  | .ixor => zi2 (fun a b => a ^^^ b) y pc ls st w
  | .ishl => zi2 (fun a b => a <<< (b &&& 31)) y pc ls st w
  | .ishr => zi2 (fun a b => a >>> (b &&& 31)) y pc ls st w
  | .iushr => zi2 (fun a b => (a.toUInt32 >>> (b.toUInt32 &&& Int32.toUInt32 31)).toInt32) y pc ls st w
  | .idiv => match st with
    | .int b :: .int a :: r => if b = 0 then none else zgo y (pc + 1) ls (.int (a / b) :: r) w
    | _ => none
  | .ineg => zi1 (fun a => .int (-a)) y pc ls st w
  | .i2l => zi1 (fun a => .long a.toInt64) y pc ls st w
  | .i2b => zi1 (fun a => .int a.toInt8.toInt32) y pc ls st w
  | .i2s => zi1 (fun a => .int a.toInt16.toInt32) y pc ls st w
  | .i2c => zi1 (fun a => .int (a.toUInt32 % 65536).toInt32) y pc ls st w
  | .l2i => match st with
    | .long a :: r => zgo y (pc + 1) ls (.int a.toInt32 :: r) w
    | _ => none
  | .ladd => zl2 (fun a b => a + b) y pc ls st w
  | .land => zl2 (fun a b => a &&& b) y pc ls st w
  | .lor => zl2 (fun a b => a ||| b) y pc ls st w
  | .lshl => match st with
    | .int b :: .long a :: r => zgo y (pc + 1) ls (.long (a <<< (b.toInt64 &&& 63)) :: r) w
    | _ => none
  | .lshr => match st with
    | .int b :: .long a :: r => zgo y (pc + 1) ls (.long (a >>> (b.toInt64 &&& 63)) :: r) w
    | _ => none
  | .lcmp => match st with
    | .long b :: .long a :: r => zgo y (pc + 1) ls (.int (lg_cmp a b) :: r) w
    | _ => none
  | .dup => match st with
    | a :: r => if a.category = 1 then zgo y (pc + 1) ls (a :: a :: r) w else none
    | _ => none
  | .pop => match st with
    | a :: r => if a.category = 1 then zgo y (pc + 1) ls r w else none
    | _ => none
  | .dup_x1 => match st with
    | a :: b :: r => if a.category = 1 ∧ b.category = 1 then zgo y (pc + 1) ls (a :: b :: a :: r) w else none
    | _ => none
  | .dup2 => match st with
    | a :: b :: r => if a.category = 1 ∧ b.category = 1 then zgo y (pc + 1) ls (a :: b :: a :: b :: r) w else none
    | _ => none
  | .goto o => zjmp y pc o ls st w
  | .ifCond c o => match st with
    | .int a :: r => if zcmp c a 0 = true then zjmp y pc o ls r w else zgo y (pc + 3) ls r w
    | _ => none
  | .if_icmp c o => match st with
    | .int b :: .int a :: r => if zcmp c a b = true then zjmp y pc o ls r w else zgo y (pc + 3) ls r w
    | _ => none
  | .ifnull o => match st with
    | .null :: r => zjmp y pc o ls r w
    | .ref a :: r => if a < zX then zgo y (pc + 3) ls r w else none
    | _ => none
  | .ifnonnull o => match st with
    | .null :: r => zgo y (pc + 3) ls r w
    | .ref a :: r => if a < zX then zjmp y pc o ls r w else none
    | _ => none
  | .tableswitch d lo hi offs => match st with
    | .int x :: r => if x.toInt < lo ∨ hi < x.toInt then zjmp y pc d ls r w else match offs[(x.toInt - lo).toNat]? with
      | some o => zjmp y pc o ls r w
      | none => none
    | _ => none
  | .lookupswitch d ps => match st with
    | .int x :: r => if (ps.toList.zip (ps.toList.drop 1)).all (fun (a, next) => decide (a.1 < next.1)) = true then zjmp y pc (Op.lookupswitch.offset ps.toList d x.toInt) ls r w else none
    | _ => none
  | .iaload => zald xs (fun k => k == 100) zint y pc ls st w
  | .caload => zald xs (fun k => k == 101) zint y pc ls st w
  | .baload => zald xs (fun k => k == 103) zint y pc ls st w
  | .aaload => zald xs (fun k => decide (200 ≤ k)) zref y pc ls st w
  | .iastore => zast (fun k v => k == 100 && zint v) (fun v => v) y pc ls st w
  | .castore => zast (fun k v => k == 101 && zint v) (fun v => narrow .char v) y pc ls st w
  | .aastore => zast (zastq w) (fun v => v) y pc ls st w
  | .arraylength => match st with
    | .ref a :: r => match zr xs w a with
      | some (k, vs) => if 100 ≤ k then zgo y (pc + 1) ls (.int (Int32.ofNat vs.length) :: r) w else none
      | none => none
    | _ => none
  | .getfield n => zgetf xs n y pc ls st w
  | .putfield n => zputf n y pc ls st w
  | .new n => if n < 13 then znw (n, znew n) 3 y pc ls st w else none
  | .newarray t => match t with
    | .int => znwa 100 (.int 0) 2 y pc ls st w
    | .char => znwa 101 (.int 0) 2 y pc ls st w
    | _ => none
  | .anewarray n => if 200 ≤ n ∧ n < 213 then znwa n .null 3 y pc ls st w else none
  | .invokevirtual n => zinv xs n y pc ls st w
  | .invokespecial n => if n = 998 then (match st with
      | .ref a :: r => if zcat r ≤ 8 ∧ a < zX then zgo y (pc + 3) ls r w else none
      | _ => none) else zinv xs n y pc ls st w
  | .invokestatic n => if n = 999 then zacp y pc ls st w else zinvS n y pc ls st w
  | .ireturn => match st with
    | [.int v] => match zQ.getD y none with
      | some ty => if narrow ty (.int v) = .int v then some (.inl (some (.int v), w)) else none
      | none => none
    | _ => none
  | .lreturn => match st with
    | [.long v] => if zQ.getD y none = some .long then some (.inl (some (.long v), w)) else none
    | _ => none
  | .areturn => match st with
    | [v] => match zQ.getD y none with
      | some (.object _) => if zref v = true then some (.inl (some v, w)) else none
      | _ => none
    | _ => none
  | .return_ => match st with
    | [] => if zQ.getD y none = none then some (.inl (none, w)) else none
    | _ => none
  | _ => none
/-- one step of a configuration -/
def zact (xs : Option (List Value)) (c : zC) : zA := match zP c.1 c.2.1 with
  | some i => zI xs c.1 c.2.1 c.2.2.1 c.2.2.2.1 c.2.2.2.2 i
  | none => none
/-- a method's run to its end, by fuel -/
def zex (xs : Option (List Value)) : Nat → zC → Option zR
  | 0, _ => none
  | n + 1, c => match zact xs c with
    | none => none
    | some (.inl r) => some r
    | some (.inr (.inl c')) => zex xs n c'
    | some (.inr (.inr (c1, y, pc, ls, st))) => match zex xs n c1 with
      | none => none
      | some r => zex xs n (y, pc, ls, r.1.toList ++ st, r.2)
theorem zex_succ (xs : Option (List Value)) : ∀ (n : Nat) (c : zC) (r : zR), zex xs n c = some r → zex xs (n + 1) c = some r := by
  intro n
  induction n with
  | zero => intro c r h; cases h
  | succ n ih =>
    intro c r h
    rw [zex] at h ⊢
    cases ha : zact xs c with
    | none => rw [ha] at h; cases h
    | some a =>
      rw [ha] at h
      rcases a with r' | c' | ⟨c1, y, pc, ls, st⟩
      · exact h
      · exact ih _ _ h
      · dsimp only at h ⊢
        cases h1 : zex xs n c1 with
        | none => rw [h1] at h; cases h
        | some r1 =>
          rw [h1] at h
          rw [ih _ _ h1]
          exact ih _ _ h
theorem zex_le (xs : Option (List Value)) {n k : Nat} (h : n ≤ k) {c : zC} {r : zR} (e : zex xs n c = some r) : zex xs k c = some r := by
  induction h with
  | refl => exact e
  | step _ ih => exact zex_succ xs _ _ _ ih
/-- a method's run to its end -/
noncomputable def zrun (xs : Option (List Value)) (c : zC) : Option zR := @dite _ (∃ (n : Nat) (r : zR), zex xs n c = some r) (Classical.propDecidable _) (fun h => zex xs h.choose c) (fun _ => none)
theorem zrun_of {xs : Option (List Value)} {n : Nat} {c : zC} {r : zR} (e : zex xs n c = some r) : zrun xs c = some r := by
  have h : ∃ (n : Nat) (r : zR), zex xs n c = some r := ⟨n, r, e⟩
  unfold zrun
  rw [dif_pos h]
  obtain ⟨r', e'⟩ := h.choose_spec
  have e1 := zex_le xs (Nat.le_max_left n h.choose) e
  have e2 := zex_le xs (Nat.le_max_right n h.choose) e'
  rw [e', ← e2, e1]
theorem zrun_some {xs : Option (List Value)} {c : zC} {r : zR} (e : zrun xs c = some r) : ∃ n, zex xs n c = some r := by
  unfold zrun at e
  split at e
  · exact ⟨_, e⟩
  · cases e
theorem zrun_eq (xs : Option (List Value)) (c : zC) : zrun xs c = match zact xs c with
    | none => none
    | some (.inl r) => some r
    | some (.inr (.inl c')) => zrun xs c'
    | some (.inr (.inr (c1, y, pc, ls, st))) => match zrun xs c1 with
      | none => none
      | some r => zrun xs (y, pc, ls, r.1.toList ++ st, r.2) := by
  apply Option.ext
  intro r
  constructor
  · intro h
    obtain ⟨n, hn⟩ := zrun_some h
    cases n with
    | zero => cases hn
    | succ n =>
      rw [zex] at hn
      cases ha : zact xs c with
      | none => rw [ha] at hn; cases hn
      | some a =>
        rw [ha] at hn
        rcases a with r' | c' | ⟨c1, y, pc, ls, st⟩
        · exact hn
        · exact zrun_of hn
        · dsimp only at hn ⊢
          cases h1 : zex xs n c1 with
          | none => rw [h1] at hn; cases hn
          | some r1 =>
            rw [h1] at hn
            rw [zrun_of h1]
            exact zrun_of hn
  · intro h
    cases ha : zact xs c with
    | none => rw [ha] at h; cases h
    | some a =>
      rw [ha] at h
      rcases a with r' | c' | ⟨c1, y, pc, ls, st⟩
      · exact zrun_of (n := 1) (by rw [zex, ha]; exact h)
      · obtain ⟨n, hn⟩ := zrun_some h
        exact zrun_of (n := n + 1) (by rw [zex, ha]; exact hn)
      · dsimp only at h
        cases h1 : zrun xs c1 with
        | none => rw [h1] at h; cases h
        | some r1 =>
          rw [h1] at h
          obtain ⟨n, hn⟩ := zrun_some h
          obtain ⟨k, hk⟩ := zrun_some h1
          refine zrun_of (n := max n k + 1) ?_
          rw [zex, ha]
          dsimp only
          rw [zex_le xs (Nat.le_max_right n k) hk]
          exact zex_le xs (Nat.le_max_left n k) hn
/-- going on -/
theorem zrun_go {xs : Option (List Value)} {y pc : Nat} {ls st : List Value} {w : zH} {c' : zC} {i : Instr} (hi : zP y pc = some i) (h : zI xs y pc ls st w i = some (.inr (.inl c'))) : zrun xs (y, pc, ls, st, w) = zrun xs c' := by
  rw [zrun_eq, zact, hi]
  dsimp only
  rw [h]
theorem zrun_end {xs : Option (List Value)} {y pc : Nat} {ls st : List Value} {w : zH} {r : zR} {i : Instr} (hi : zP y pc = some i) (h : zI xs y pc ls st w i = some (.inl r)) : zrun xs (y, pc, ls, st, w) = some r := by
  rw [zrun_eq, zact, hi]
  dsimp only
  rw [h]
theorem zrun_call {xs : Option (List Value)} {y pc : Nat} {ls st : List Value} {w : zH} {c1 : zC} {pc2 : Nat} {st2 : List Value} {r : zR} {i : Instr} (hi : zP y pc = some i) (h : zI xs y pc ls st w i = some (.inr (.inr (c1, y, pc2, ls, st2)))) (h1 : zrun xs c1 = some r) : zrun xs (y, pc, ls, st, w) = zrun xs (y, pc2, ls, r.1.toList ++ st2, r.2) := by
  rw [zrun_eq, zact, hi]
  dsimp only
  rw [h]
  dsimp only
  rw [h1]

/-! of which instruction an op is -/
def mj_NW (NW : List Jvm.Cond) : Prop := ∀ w ∈ NW, ∃ a i x h, w = Jvm.Cond.methodLinkNest a i x h
/-- of which instruction an op is, and what the tables must say for it -/
def mj_is (cl : List vw_C) (own : String) (Ts NW : List Jvm.Cond) (Ms : List mj_M) (cc : ByteArray) (pc : Nat) (o : mj_O) : Prop :=
  match o.1 with
  | 0 => (decode cc pc = .ok (.iconst o.2.1, 1) ∧ o.2.2.1 = 1) ∨ (decode cc pc = .ok (.bipush o.2.1, 2) ∧ o.2.2.1 = 2 ∧ (Int8.ofInt o.2.1).toInt32 = Int32.ofInt o.2.1) ∨ (decode cc pc = .ok (.sipush o.2.1, 3) ∧ o.2.2.1 = 3 ∧ (Int16.ofInt o.2.1).toInt32 = Int32.ofInt o.2.1) ∨ (∃ i, decode cc pc = .ok (.ldc i, 2) ∧ o.2.2.1 = 2 ∧ Jvm.Cond.constant own i (Int32.ofInt o.2.1) ∈ Ts) ∨ (∃ i, decode cc pc = .ok (.ldc_w i, 3) ∧ o.2.2.1 = 3 ∧ Jvm.Cond.constant own i (Int32.ofInt o.2.1) ∈ Ts)
  | 1 => (∃ k : Fin 4, decode cc pc = .ok (.iload_n k, 1) ∧ (k : Nat) = o.2.2.1 ∧ o.2.1 = 1) ∨ (decode cc pc = .ok (.iload o.2.2.1, 2) ∧ o.2.1 = 2)
  | 2 => (∃ k : Fin 4, decode cc pc = .ok (.aload_n k, 1) ∧ (k : Nat) = o.2.2.1 ∧ o.2.1 = 1) ∨ (decode cc pc = .ok (.aload o.2.2.1, 2) ∧ o.2.1 = 2)
  | 3 => (∃ k : Fin 4, decode cc pc = .ok (.lload_n k, 1) ∧ (k : Nat) = o.2.2.1 ∧ o.2.1 = 1) ∨ (decode cc pc = .ok (.lload o.2.2.1, 2) ∧ o.2.1 = 2)
  | 4 => (∃ k : Fin 4, decode cc pc = .ok (.istore_n k, 1) ∧ (k : Nat) = o.2.2.1 ∧ o.2.1 = 1) ∨ (decode cc pc = .ok (.istore o.2.2.1, 2) ∧ o.2.1 = 2)
  | 5 => (∃ k : Fin 4, decode cc pc = .ok (.astore_n k, 1) ∧ (k : Nat) = o.2.2.1 ∧ o.2.1 = 1) ∨ (decode cc pc = .ok (.astore o.2.2.1, 2) ∧ o.2.1 = 2)
  | 6 => (∃ k : Fin 4, decode cc pc = .ok (.lstore_n k, 1) ∧ (k : Nat) = o.2.2.1 ∧ o.2.1 = 1) ∨ (decode cc pc = .ok (.lstore o.2.2.1, 2) ∧ o.2.1 = 2)
  | 7 => decode cc pc = .ok (.iinc o.2.2.1 o.2.1, 3)
  | 8 => decode cc pc = .ok (.iadd, 1)
  | 9 => decode cc pc = .ok (.isub, 1)
  | 10 => decode cc pc = .ok (.imul, 1)
  | 11 => decode cc pc = .ok (.idiv, 1)
  | 12 => decode cc pc = .ok (.irem, 1)
  | 13 => decode cc pc = .ok (.ineg, 1)
  | 16 => decode cc pc = .ok (.goto ((o.2.2.1 : Int) - pc), 3)
  | 17 => ∃ i C T N, decode cc pc = .ok (.getfield i, 3) ∧ cl[o.2.1.toNat]? = some (C, T, N) ∧ o.2.2.1 < N ∧ Jvm.Cond.fieldLink own i (T o.2.2.1).1 (T o.2.2.1).2.1 (T o.2.2.1).2.2.1 ∈ Ts ∧ (∀ w ∈ u_ws C T N, w ∈ Ts)
  | 18 => ∃ i C T N, ∃ ty : Nat → FieldType, decode cc pc = .ok (.putfield i, 3) ∧ cl[o.2.1.toNat]? = some (C, T, N) ∧ o.2.2.1 < N ∧ Jvm.Cond.fieldLink own i (T o.2.2.1).1 (T o.2.2.1).2.1 (T o.2.2.1).2.2.1 ∈ Ts ∧ (∀ w ∈ u_ws C T N, w ∈ Ts) ∧ (∀ k, k < N → parseFieldDescriptor (T k).2.2.1 = some (ty k)) ∧ (∀ a, a < N → ∀ b, b < N → a ≠ b → (T a).2.1 ≠ (T b).2.1) ∧ (T o.2.2.1).2.2.2 = false ∧ parseFieldDescriptor (T o.2.2.1).2.2.1 = some .int
  | 19 => decode cc pc = .ok (.iaload, 1)
  | 20 => decode cc pc = .ok (.caload, 1)
  | 21 => decode cc pc = .ok (.baload, 1)
  | 22 => decode cc pc = .ok (.iastore, 1)
  | 23 => decode cc pc = .ok (.castore, 1)
  | 24 => decode cc pc = .ok (.bastore, 1)
  | 25 => decode cc pc = .ok (.arraylength, 1)
  | 26 => ∃ M i n, Ms[o.2.2.1]? = some M ∧ M.2.2.1 ≤ 40 ∧ (M.1.cls ≠ "java/lang/invoke/MethodHandle" ∧ M.1.cls ≠ "java/lang/invoke/VarHandle" ∧ (parseMethodDescriptor M.1.desc).map (fun d => d.parameters.length) = some n) ∧ Jvm.Cond.initialized M.1.cls ∈ Ts ∧
      ((∃ ci T N, decode cc pc = .ok (.invokevirtual i, 3) ∧ o.2.1 = (n : Int) + 1 ∧ o.2.2.2 = [(ci, 0)] ∧ cl[ci.toNat]? = some (M.1.cls, T, N) ∧ Jvm.Cond.methodLink own i M.1 ∈ Ts ∧ Jvm.Cond.instanceMethod M.1 ∈ Ts ∧ Jvm.Cond.selects M.1.cls M.1 M.1 ∈ Ts) ∨
       (decode cc pc = .ok (.invokestatic i, 3) ∧ o.2.1 = (n : Int) ∧ o.2.2.2 = [] ∧ Jvm.Cond.methodLink own i M.1 ∈ Ts ∧ Jvm.Cond.static M.1 ∈ Ts) ∨
       (∃ host, decode cc pc = .ok (.invokestatic i, 3) ∧ o.2.1 = (n : Int) ∧ o.2.2.2 = [] ∧ Jvm.Cond.methodLinkNest own i M.1 host ∈ NW ∧ Jvm.Cond.static M.1 ∈ Ts))
  | 27 => decode cc pc = .ok (.ireturn, 1)
  | 28 => decode cc pc = .ok (.return_, 1)
  | 29 => decode cc pc = .ok (.dup, 1)
  | 30 => decode cc pc = .ok (.dup_x1, 1)
  | 31 => decode cc pc = .ok (.dup2, 1)
  | 32 => decode cc pc = .ok (.pop, 1)
  | 33 => ∃ df hi offs len, decode cc pc = .ok (.tableswitch df o.2.1 hi offs, len) ∧ hi + 1 = o.2.1 + o.2.2.2.length ∧ offs.toList = o.2.2.2.map (fun q => (q.2 : Int) - pc) ∧ (pc : Int) + df = o.2.2.1
  | 34 => ∃ df ps len, decode cc pc = .ok (.lookupswitch df ps, len) ∧ (ps.toList.zip (ps.toList.drop 1)).all (fun (a, next) => a.1 < next.1) = true ∧ ps.toList = o.2.2.2.map (fun q => (q.1, (q.2 : Int) - pc)) ∧ (pc : Int) + df = o.2.2.1
  | 35 => decode cc pc = .ok (.i2c, 1)
  | 36 => decode cc pc = .ok (.i2l, 1)
  | 37 => decode cc pc = .ok (.l2i, 1)
  | 38 => decode cc pc = .ok (.ladd, 1)
  | 39 => decode cc pc = .ok (.lsub, 1)
  | 40 => decode cc pc = .ok (.lmul, 1)
  | 41 => decode cc pc = .ok (.lcmp, 1)
  | 42 => (∃ k : Fin 2, decode cc pc = .ok (.lconst k, 1) ∧ ((k : Nat) : Int) = o.2.1 ∧ o.2.2.1 = 1) ∨ (∃ i, decode cc pc = .ok (.ldc2_w i, 3) ∧ o.2.2.1 = 3 ∧ Jvm.Cond.constantLong own i (Int64.ofInt o.2.1) ∈ Ts)
  | 44 => ∃ i, decode cc pc = .ok (.invokestatic i, 3) ∧ Jvm.Cond.methodLink own i Lib.Math.max.name ∈ Ts ∧ Jvm.Cond.static Lib.Math.max.name ∈ Ts ∧ Jvm.Cond.initialized "java/lang/Math" ∈ Ts ∧ Jvm.Cond.code Lib.Math.max.name Lib.Math.max.code 2 (some .int) ∈ Ts
  | 45 => ∃ i, decode cc pc = .ok (.invokestatic i, 3) ∧ Jvm.Cond.methodLink own i Lib.Math.min.name ∈ Ts ∧ Jvm.Cond.static Lib.Math.min.name ∈ Ts ∧ Jvm.Cond.initialized "java/lang/Math" ∈ Ts ∧ Jvm.Cond.code Lib.Math.min.name Lib.Math.min.code 2 (some .int) ∈ Ts
  | 46 => ∃ i, decode cc pc = .ok (.invokestatic i, 3) ∧ Jvm.Cond.methodLink own i arraycopyName ∈ Ts ∧ Jvm.Cond.native arraycopyName ∈ Ts ∧ Jvm.Cond.static arraycopyName ∈ Ts ∧ Jvm.Cond.initialized "java/lang/System" ∈ Ts
  | 50 => decode cc pc = .ok (.ifCond .eq ((o.2.2.1 : Int) - pc), 3)
  | 51 => decode cc pc = .ok (.ifCond .ne ((o.2.2.1 : Int) - pc), 3)
  | 52 => decode cc pc = .ok (.ifCond .lt ((o.2.2.1 : Int) - pc), 3)
  | 53 => decode cc pc = .ok (.ifCond .ge ((o.2.2.1 : Int) - pc), 3)
  | 54 => decode cc pc = .ok (.ifCond .gt ((o.2.2.1 : Int) - pc), 3)
  | 55 => decode cc pc = .ok (.ifCond .le ((o.2.2.1 : Int) - pc), 3)
  | 60 => decode cc pc = .ok (.if_icmp .eq ((o.2.2.1 : Int) - pc), 3)
  | 61 => decode cc pc = .ok (.if_icmp .ne ((o.2.2.1 : Int) - pc), 3)
  | 62 => decode cc pc = .ok (.if_icmp .lt ((o.2.2.1 : Int) - pc), 3)
  | 63 => decode cc pc = .ok (.if_icmp .ge ((o.2.2.1 : Int) - pc), 3)
  | 64 => decode cc pc = .ok (.if_icmp .gt ((o.2.2.1 : Int) - pc), 3)
  | 65 => decode cc pc = .ok (.if_icmp .le ((o.2.2.1 : Int) - pc), 3)
  | _ => True
theorem mj_sw_in {lo : Int} {t : List (Int × Nat)} {d : Nat} {x : Int} {pc : Nat} {offs : Array Int} (ho : offs.toList = t.map (fun q => (q.2 : Int) - pc)) (h1 : lo ≤ x) (h2 : x < lo + t.length) : ∃ off, offs[(x - lo).toNat]? = some off ∧ (pc : Int) + off = (mj_sw lo t d x : Int) := by
  have hl : (x - lo).toNat < t.length := by omega
  refine ⟨((t[(x - lo).toNat]'hl).2 : Int) - pc, ?_, ?_⟩
  · rw [← Array.getElem?_toList, ho, List.getElem?_map, List.getElem?_eq_getElem hl]; rfl
  · unfold mj_sw
    rw [if_pos ⟨h1, h2⟩, List.getElem?_eq_getElem hl]
    show (pc : Int) + (((t[(x - lo).toNat]'hl).2 : Int) - pc) = ((t[(x - lo).toNat]'hl).2 : Int)
    omega
theorem mj_lk_off {d : Nat} {x df : Int} {pc : Nat} (hd : (pc : Int) + df = d) : ∀ t : List (Int × Nat), (pc : Int) + Op.lookupswitch.offset (t.map (fun q => (q.1, (q.2 : Int) - pc))) df x = (mj_lk d x t : Int)
  | [] => hd
  | (a, tg) :: r => by
    rw [List.map_cons, Op.lookupswitch.offset_cons]
    unfold mj_lk
    by_cases h : x = a
    · subst h
      rw [if_pos rfl, if_pos rfl]
      show (pc : Int) + ((tg : Int) - pc) = tg
      omega
    · rw [if_neg (fun q : a = x => h q.symm), if_neg h]
      exact mj_lk_off hd r

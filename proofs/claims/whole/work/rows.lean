section
theorem su_code_word {a : Array Value} {s : State} {x : MethodName} {bytes : ByteArray} {maxL : Nat} {ret : Option FieldType} {m : MethodId} {meth : Method} {c : Code}
    (hn : s.methodNamed? x = some m) (hm : s.vm.method? m = some meth) (hc : meth.code = some c) (h1 : c.code = bytes) (h2 : c.maxLocals = maxL) (h3 : c.exceptionTable.isEmpty = true)
    (h4 : meth.sig.returnType = ret) (h5 : meth.locks = false) (h6 : parseMethodDescriptor x.desc = some meth.sig) (h7 : c.maxStack ≤ mostOperands) : (Cond.code x bytes maxL ret).before a s = true := by
  subst h1 h2 h4
  simp [Cond.before, Cond.holds, Cond.value, hn, hm, hc, h3, h5, h6, h7]
theorem su_hand_word {a : Array Value} {s : State} {x : MethodName} {m : MethodId} {nm ds : String} {ps : List FieldType} {ret : Option FieldType} {fl maxL : Nat} {bytes : ByteArray}
    (hn : s.methodNamed? x = some m) (hm : s.vm.method? m = some (Lib.HandJ.method nm ds ps ret fl maxL bytes)) (h5 : (Lib.HandJ.method nm ds ps ret fl maxL bytes).locks = false)
    (h6 : parseMethodDescriptor x.desc = some (Lib.HandJ.method nm ds ps ret fl maxL bytes).sig) : (Cond.code x bytes maxL ret).before a s = true :=
  su_code_word hn hm rfl rfl rfl rfl rfl h5 h6 (by first | decide | exact Nat.le_of_ble_eq_true rfl)
def su_isCode : Jvm.Cond → Bool
  | .code .. => true
  | _ => false
theorem su_words {l : List Jvm.Cond} {f : Jvm.Cond → Bool} (h1 : l.all (fun c => su_isCode c || f c) = true) (h2 : ∀ c ∈ l.filter su_isCode, f c = true) : ∀ c ∈ l, f c = true := by
  intro c hc
  have h := List.all_eq_true.mp h1 c hc
  cases hq : su_isCode c with
  | false => simpa [hq] using h
  | true => exact h2 c (List.mem_filter.mpr ⟨hc, hq⟩)
def su_look {α : Type} (d : α) : List (Nat × α) → Nat → α
  | [], _ => d
  | (k, v) :: r, i => match Nat.beq k i with
    | true => v
    | false => su_look d r i
def su_down {α : Type} (f : Nat → α) (n : Nat) : Nat → List α
  | 0 => []
  | k + 1 => f (n - (k + 1)) :: su_down f n k
def su_arr {α : Type} (d : α) (ps : List (Nat × α)) (n : Nat) : Array α := ⟨su_down (su_look d ps) n n⟩
def su_poolPairs : List Lib.HandW.Entry → Nat → List (Nat × CpInfo)
  | [], _ => []
  | (kind, k, cls, name, desc, c, _) :: r, b =>
    ((if kind ≤ 1 then [(k, if kind = 0 then CpInfo.fieldref b (b + 2) else CpInfo.methodref b (b + 2)), (b, CpInfo.class_ (b + 1)), (b + 1, CpInfo.utf8 (stringToUtf16 cls)), (b + 2, CpInfo.nameAndType (b + 3) (b + 4)), (b + 3, CpInfo.utf8 (stringToUtf16 name)), (b + 4, CpInfo.utf8 (stringToUtf16 desc))]
     else if kind = 2 then [(k, CpInfo.class_ b), (b, CpInfo.utf8 (stringToUtf16 cls))]
     else if kind = 3 then [(k, CpInfo.string b), (b, CpInfo.utf8 (stringToUtf16 name))]
     else if kind = 4 then [(k, CpInfo.long (UInt64.ofNat c))]
     else if kind = 5 then [(k, CpInfo.integer (UInt32.ofNat c))]
     else if kind = 6 then [(k, CpInfo.float (UInt32.ofNat c))]
     else if kind = 8 then [(k, CpInfo.interfaceMethodref b (b + 2)), (b, CpInfo.class_ (b + 1)), (b + 1, CpInfo.utf8 (stringToUtf16 cls)), (b + 2, CpInfo.nameAndType (b + 3) (b + 4)), (b + 3, CpInfo.utf8 (stringToUtf16 name)), (b + 4, CpInfo.utf8 (stringToUtf16 desc))]
     else [(k, CpInfo.double (UInt64.ofNat c))]) : List (Nat × CpInfo)) ++ su_poolPairs r (b + 7)
def su_resPairs : List Lib.HandW.Entry → Nat → List (Nat × Option Resolved)
  | [], _ => []
  | (kind, k, _, _, _, c, i) :: t, b =>
    ((if kind = 0 then [(k, some (Resolved.field c i)), (b, some (Resolved.cls c))]
     else if kind = 1 then [(k, some (Resolved.method ⟨c, i⟩)), (b, some (Resolved.cls c))]
     else if kind = 2 then [(k, some (Resolved.cls c))]
     else if kind = 3 then [(k, some (Resolved.string c))]
     else if kind = 8 then [(k, some (Resolved.method ⟨c, i⟩)), (b, some (Resolved.cls c))]
     else []) : List (Nat × Option Resolved)) ++ su_resPairs t (b + 7)
def su_own (name : String) (flags : Nat) (es : List Lib.HandW.Entry) (fs : List (String × FieldType × Nat)) (m : Method) : Class :=
  { Lib.HandJ.cls name (su_arr CpInfo.unusable (su_poolPairs es (Lib.HandW.top es)) (Lib.HandW.top es + 7 * es.length)) (su_arr (none : Option Resolved) (su_resPairs es (Lib.HandW.top es)) (Lib.HandW.top es + 7 * es.length)) flags (Lib.HandW.fieldsFrom fs 0).toArray #[m] (fs.map fun f => f.2.1).toArray with super := some 1 }
def start1.mLaw : Method := Lib.HandJ.method x.name x.desc [.array .int] ret 0x9 maxLocals code
/-- the class entry of a reference to an inherited member names the subclass: resolved to that class, not to the declarer's -/
def start1.suRes (es : List (Nat × Resolved)) (c : Class) : Class := { c with resolved := es.foldl (fun r e => r.setIfInBounds e.1 (some e.2)) c.resolved }
def start1.cObjectC : Class := { Lib.HandBits.cObject with methods := Lib.HandBits.cObject.methods ++ #[{ name := "clone", desc := "()Ljava/lang/Object;", sig := { parameters := [], returnType := some (.object "java/lang/Object") }, accessFlags := 0x104, code := none }] }
def start1.c0 : Class := { su_own "ClocksoloLaw" 0x31
    [(1, 7, "Clocksolo", "tell", "(IIIII)I", 2, 1),
     (2, 8, "Clocksolo", "", "", 2, 0),
     (0, 13, "ClocksoloLaw$Out", "n", "J", 4, 0),
     (2, 14, "ClocksoloLaw$Out", "", "", 4, 0),
     (2, 19, "java/lang/IndexOutOfBoundsException", "", "", 22, 0),
     (2, 21, "java/lang/IllegalArgumentException", "", "", 23, 0),
     (1, 23, "Clocksolo", "tellSecond", "(II)I", 2, 2),
     (1, 27, "Clocksolo", "tellNumber", "(III)I", 2, 3),
     (1, 31, "Clocksolo", "tellKnown", "(II)I", 2, 4),
     (1, 34, "Clocksolo", "take", "(II)I", 2, 5),
     (1, 37, "Clocksolo", "with", "(III)I", 2, 6),
     (1, 40, "Clocksolo", "plus", "(IIII)I", 2, 7),
     (1, 44, "Clocksolo", "minus", "(IIII)I", 2, 8),
     (1, 47, "Clocksolo", "walk", "(IIII)I", 2, 9),
     (1, 50, "Clocksolo", "cut", "(II)I", 2, 10),
     (1, 53, "Clocksolo", "of", "(II)I", 2, 11),
     (1, 56, "Clocksolo", "number", "(I)Ljava/lang/String;", 2, 12),
     (0, 60, "ClocksoloLaw$Out", "s", "Ljava/lang/String;", 4, 1),
     (1, 64, "Clocksolo", "text", "(I)Ljava/lang/String;", 2, 13),
     (1, 67, "Clocksolo", "beyond", "(II)Ljava/lang/String;", 2, 14),
     (1, 71, "Clocksolo", "compare", "(II)I", 2, 15),
     (1, 74, "Clocksolo", "isAhead", "(II)Z", 2, 16),
     (1, 78, "Clocksolo", "isBehind", "(II)Z", 2, 17),
     (1, 81, "Clocksolo", "areAlike", "(II)Z", 2, 18),
     (1, 84, "Clocksolo", "between", "(III)Ljava/lang/String;", 2, 19),
     (1, 88, "Clocksolo", "house", "(I)I", 2, 23),
     (1, 92, "Clocksolo", "<init>", "()V", 2, 0),
     (2, 93, "ClocksoloModel", "", "", 3, 0),
     (1, 95, "ClocksoloModel", "<init>", "()V", 3, 0),
     (1, 96, "ClocksoloLaw$Out", "<init>", "()V", 4, 0),
     (1, 97, "ClocksoloLaw", "tell", "(LClocksolo;IIIIILClocksoloLaw$Out;)I", 0, 1),
     (1, 102, "ClocksoloModel", "tell", "(IIIII)I", 3, 9),
     (1, 103, "ClocksoloModel", "thrown", "()I", 3, 1),
     (1, 107, "ClocksoloLaw", "tellSecond", "(LClocksolo;IILClocksoloLaw$Out;)I", 0, 2),
     (1, 110, "ClocksoloModel", "tellSecond", "(II)I", 3, 10),
     (1, 111, "ClocksoloLaw", "tellNumber", "(LClocksolo;IIILClocksoloLaw$Out;)I", 0, 3),
     (1, 114, "ClocksoloModel", "tellNumber", "(III)I", 3, 11),
     (1, 115, "ClocksoloLaw", "tellKnown", "(LClocksolo;IILClocksoloLaw$Out;)I", 0, 4),
     (1, 117, "ClocksoloModel", "tellKnown", "(II)I", 3, 12),
     (1, 118, "ClocksoloLaw", "take", "(LClocksolo;IILClocksoloLaw$Out;)I", 0, 5),
     (1, 120, "ClocksoloModel", "take", "(II)I", 3, 13),
     (1, 121, "ClocksoloLaw", "with", "(LClocksolo;IIILClocksoloLaw$Out;)I", 0, 6),
     (1, 123, "ClocksoloModel", "with", "(III)I", 3, 14),
     (1, 124, "ClocksoloLaw", "plus", "(LClocksolo;IIIILClocksoloLaw$Out;)I", 0, 7),
     (1, 127, "ClocksoloModel", "plus", "(IIII)I", 3, 17),
     (1, 128, "ClocksoloLaw", "minus", "(LClocksolo;IIIILClocksoloLaw$Out;)I", 0, 8),
     (1, 130, "ClocksoloModel", "minus", "(IIII)I", 3, 18),
     (1, 131, "ClocksoloLaw", "walk", "(LClocksolo;IIIILClocksoloLaw$Out;)I", 0, 9),
     (1, 133, "ClocksoloModel", "walk", "(IIII)I", 3, 19),
     (1, 134, "ClocksoloLaw", "cut", "(LClocksolo;IILClocksoloLaw$Out;)I", 0, 10),
     (1, 136, "ClocksoloModel", "cut", "(II)I", 3, 20),
     (1, 137, "ClocksoloLaw", "of", "(LClocksolo;IILClocksoloLaw$Out;)I", 0, 11),
     (1, 139, "ClocksoloModel", "of", "(II)I", 3, 21),
     (1, 140, "ClocksoloLaw", "number", "(LClocksolo;ILClocksoloLaw$Out;)I", 0, 12),
     (1, 143, "ClocksoloModel", "number", "(I)Ljava/lang/String;", 3, 22),
     (1, 144, "java/lang/String", "equals", "(Ljava/lang/Object;)Z", 8, 3),
     (1, 150, "ClocksoloLaw", "text", "(LClocksolo;ILClocksoloLaw$Out;)I", 0, 13),
     (1, 152, "ClocksoloModel", "text", "(I)Ljava/lang/String;", 3, 23),
     (1, 153, "ClocksoloLaw", "beyond", "(LClocksolo;IILClocksoloLaw$Out;)I", 0, 14),
     (1, 155, "ClocksoloModel", "beyond", "(II)Ljava/lang/String;", 3, 24),
     (1, 156, "ClocksoloLaw", "compare", "(LClocksolo;IILClocksoloLaw$Out;)I", 0, 15),
     (1, 158, "ClocksoloModel", "compare", "(II)I", 3, 26),
     (1, 159, "ClocksoloLaw", "isAhead", "(LClocksolo;IILClocksoloLaw$Out;)I", 0, 16),
     (1, 161, "ClocksoloModel", "isAhead", "(II)Z", 3, 27),
     (1, 162, "ClocksoloLaw", "isBehind", "(LClocksolo;IILClocksoloLaw$Out;)I", 0, 17),
     (1, 164, "ClocksoloModel", "isBehind", "(II)Z", 3, 28),
     (1, 165, "ClocksoloLaw", "areAlike", "(LClocksolo;IILClocksoloLaw$Out;)I", 0, 18),
     (1, 167, "ClocksoloModel", "areAlike", "(II)Z", 3, 29),
     (1, 168, "ClocksoloLaw", "between", "(LClocksolo;IIILClocksoloLaw$Out;)I", 0, 19),
     (1, 170, "ClocksoloModel", "between", "(III)Ljava/lang/String;", 3, 31),
     (1, 171, "Clocksolo", "order", "()Ljava/lang/String;", 2, 20),
     (1, 175, "ClocksoloModel", "order", "()Ljava/lang/String;", 3, 33),
     (1, 176, "Clocksolo", "kinds", "()I", 2, 21),
     (1, 179, "ClocksoloModel", "kinds", "()I", 3, 35),
     (1, 180, "Clocksolo", "knock", "()I", 2, 22),
     (1, 183, "ClocksoloModel", "knock", "()I", 3, 36),
     (1, 184, "ClocksoloLaw", "house", "(LClocksolo;ILClocksoloLaw$Out;)I", 0, 20),
     (1, 186, "ClocksoloModel", "house", "(I)I", 3, 37),
     (1, 187, "Clocksolo", "isSound", "()Z", 2, 24),
     (1, 191, "ClocksoloModel", "isSound", "()Z", 3, 39),
     (1, 192, "Clocksolo", "digest", "()J", 2, 25),
     (1, 196, "ClocksoloModel", "digest", "()J", 3, 41)]
    [] mLaw with
  methods := #[mLaw,
    (let q := Lib.HandJ.method "tell" "(LClocksolo;IIIIILClocksoloLaw$Out;)I" [.object "Clocksolo", .int, .int, .int, .int, .int, .object "ClocksoloLaw$Out"] (some .int) 0xa 8 method_2_code; { q with code := q.code.map fun c => { c with exceptionTable := #[{ startPc := 0, endPc := 17, handlerPc := 20, catchType := 19 }, { startPc := 0, endPc := 17, handlerPc := 24, catchType := 21 }] } }),
    (let q := Lib.HandJ.method "tellSecond" "(LClocksolo;IILClocksoloLaw$Out;)I" [.object "Clocksolo", .int, .int, .object "ClocksoloLaw$Out"] (some .int) 0xa 5 method_3_code; { q with code := q.code.map fun c => { c with exceptionTable := #[{ startPc := 0, endPc := 11, handlerPc := 14, catchType := 19 }, { startPc := 0, endPc := 11, handlerPc := 18, catchType := 21 }] } }),
    (let q := Lib.HandJ.method "tellNumber" "(LClocksolo;IIILClocksoloLaw$Out;)I" [.object "Clocksolo", .int, .int, .int, .object "ClocksoloLaw$Out"] (some .int) 0xa 6 method_4_code; { q with code := q.code.map fun c => { c with exceptionTable := #[{ startPc := 0, endPc := 13, handlerPc := 16, catchType := 19 }, { startPc := 0, endPc := 13, handlerPc := 20, catchType := 21 }] } }),
    (let q := Lib.HandJ.method "tellKnown" "(LClocksolo;IILClocksoloLaw$Out;)I" [.object "Clocksolo", .int, .int, .object "ClocksoloLaw$Out"] (some .int) 0xa 5 method_5_code; { q with code := q.code.map fun c => { c with exceptionTable := #[{ startPc := 0, endPc := 11, handlerPc := 14, catchType := 19 }, { startPc := 0, endPc := 11, handlerPc := 18, catchType := 21 }] } }),
    (let q := Lib.HandJ.method "take" "(LClocksolo;IILClocksoloLaw$Out;)I" [.object "Clocksolo", .int, .int, .object "ClocksoloLaw$Out"] (some .int) 0xa 5 method_6_code; { q with code := q.code.map fun c => { c with exceptionTable := #[{ startPc := 0, endPc := 11, handlerPc := 14, catchType := 19 }] } }),
    (let q := Lib.HandJ.method "with" "(LClocksolo;IIILClocksoloLaw$Out;)I" [.object "Clocksolo", .int, .int, .int, .object "ClocksoloLaw$Out"] (some .int) 0xa 6 method_7_code; { q with code := q.code.map fun c => { c with exceptionTable := #[{ startPc := 0, endPc := 13, handlerPc := 16, catchType := 19 }, { startPc := 0, endPc := 13, handlerPc := 20, catchType := 21 }] } }),
    (let q := Lib.HandJ.method "plus" "(LClocksolo;IIIILClocksoloLaw$Out;)I" [.object "Clocksolo", .int, .int, .int, .int, .object "ClocksoloLaw$Out"] (some .int) 0xa 7 method_8_code; { q with code := q.code.map fun c => { c with exceptionTable := #[{ startPc := 0, endPc := 15, handlerPc := 18, catchType := 19 }, { startPc := 0, endPc := 15, handlerPc := 22, catchType := 21 }] } }),
    (let q := Lib.HandJ.method "minus" "(LClocksolo;IIIILClocksoloLaw$Out;)I" [.object "Clocksolo", .int, .int, .int, .int, .object "ClocksoloLaw$Out"] (some .int) 0xa 7 method_9_code; { q with code := q.code.map fun c => { c with exceptionTable := #[{ startPc := 0, endPc := 15, handlerPc := 18, catchType := 19 }, { startPc := 0, endPc := 15, handlerPc := 22, catchType := 21 }] } }),
    (let q := Lib.HandJ.method "walk" "(LClocksolo;IIIILClocksoloLaw$Out;)I" [.object "Clocksolo", .int, .int, .int, .int, .object "ClocksoloLaw$Out"] (some .int) 0xa 7 method_10_code; { q with code := q.code.map fun c => { c with exceptionTable := #[{ startPc := 0, endPc := 15, handlerPc := 18, catchType := 19 }, { startPc := 0, endPc := 15, handlerPc := 22, catchType := 21 }] } }),
    (let q := Lib.HandJ.method "cut" "(LClocksolo;IILClocksoloLaw$Out;)I" [.object "Clocksolo", .int, .int, .object "ClocksoloLaw$Out"] (some .int) 0xa 5 method_11_code; { q with code := q.code.map fun c => { c with exceptionTable := #[{ startPc := 0, endPc := 11, handlerPc := 14, catchType := 19 }, { startPc := 0, endPc := 11, handlerPc := 18, catchType := 21 }] } }),
    (let q := Lib.HandJ.method "of" "(LClocksolo;IILClocksoloLaw$Out;)I" [.object "Clocksolo", .int, .int, .object "ClocksoloLaw$Out"] (some .int) 0xa 5 method_12_code; { q with code := q.code.map fun c => { c with exceptionTable := #[{ startPc := 0, endPc := 11, handlerPc := 14, catchType := 19 }, { startPc := 0, endPc := 11, handlerPc := 18, catchType := 21 }] } }),
    (let q := Lib.HandJ.method "number" "(LClocksolo;ILClocksoloLaw$Out;)I" [.object "Clocksolo", .int, .object "ClocksoloLaw$Out"] (some .int) 0xa 4 method_13_code; { q with code := q.code.map fun c => { c with exceptionTable := #[{ startPc := 0, endPc := 9, handlerPc := 12, catchType := 19 }] } }),
    (let q := Lib.HandJ.method "text" "(LClocksolo;ILClocksoloLaw$Out;)I" [.object "Clocksolo", .int, .object "ClocksoloLaw$Out"] (some .int) 0xa 4 method_14_code; { q with code := q.code.map fun c => { c with exceptionTable := #[{ startPc := 0, endPc := 9, handlerPc := 12, catchType := 19 }] } }),
    (let q := Lib.HandJ.method "beyond" "(LClocksolo;IILClocksoloLaw$Out;)I" [.object "Clocksolo", .int, .int, .object "ClocksoloLaw$Out"] (some .int) 0xa 5 method_15_code; { q with code := q.code.map fun c => { c with exceptionTable := #[{ startPc := 0, endPc := 10, handlerPc := 13, catchType := 19 }, { startPc := 0, endPc := 10, handlerPc := 17, catchType := 21 }] } }),
    (let q := Lib.HandJ.method "compare" "(LClocksolo;IILClocksoloLaw$Out;)I" [.object "Clocksolo", .int, .int, .object "ClocksoloLaw$Out"] (some .int) 0xa 5 method_16_code; { q with code := q.code.map fun c => { c with exceptionTable := #[{ startPc := 0, endPc := 11, handlerPc := 14, catchType := 19 }] } }),
    (let q := Lib.HandJ.method "isAhead" "(LClocksolo;IILClocksoloLaw$Out;)I" [.object "Clocksolo", .int, .int, .object "ClocksoloLaw$Out"] (some .int) 0xa 5 method_17_code; { q with code := q.code.map fun c => { c with exceptionTable := #[{ startPc := 0, endPc := 18, handlerPc := 21, catchType := 19 }] } }),
    (let q := Lib.HandJ.method "isBehind" "(LClocksolo;IILClocksoloLaw$Out;)I" [.object "Clocksolo", .int, .int, .object "ClocksoloLaw$Out"] (some .int) 0xa 5 method_18_code; { q with code := q.code.map fun c => { c with exceptionTable := #[{ startPc := 0, endPc := 18, handlerPc := 21, catchType := 19 }] } }),
    (let q := Lib.HandJ.method "areAlike" "(LClocksolo;IILClocksoloLaw$Out;)I" [.object "Clocksolo", .int, .int, .object "ClocksoloLaw$Out"] (some .int) 0xa 5 method_19_code; { q with code := q.code.map fun c => { c with exceptionTable := #[{ startPc := 0, endPc := 18, handlerPc := 21, catchType := 19 }] } }),
    (let q := Lib.HandJ.method "between" "(LClocksolo;IIILClocksoloLaw$Out;)I" [.object "Clocksolo", .int, .int, .int, .object "ClocksoloLaw$Out"] (some .int) 0xa 6 method_20_code; { q with code := q.code.map fun c => { c with exceptionTable := #[{ startPc := 0, endPc := 12, handlerPc := 15, catchType := 19 }, { startPc := 0, endPc := 12, handlerPc := 19, catchType := 21 }] } }),
    (let q := Lib.HandJ.method "house" "(LClocksolo;ILClocksoloLaw$Out;)I" [.object "Clocksolo", .int, .object "ClocksoloLaw$Out"] (some .int) 0xa 4 method_21_code; { q with code := q.code.map fun c => { c with exceptionTable := #[{ startPc := 0, endPc := 10, handlerPc := 13, catchType := 21 }] } })] }
def start1.c2 : Class := { su_own "Clocksolo" 0x31
    [(1, 1, "java/lang/Object", "<init>", "()V", 1, 0),
     (0, 9, "Clocksolo", "numbers", "[J", 2, 0),
     (0, 13, "Clocksolo", "knocks", "I", 2, 1),
     (0, 17, "Clocksolo", "changes", "I", 2, 2),
     (1, 20, "Clocksolo", "needClock", "(I)V", 2, 26),
     (1, 24, "Clocksolo", "needPart", "(II)V", 2, 27),
     (1, 28, "Clocksolo", "numberOfParts", "(IIII)J", 2, 37),
     (1, 32, "Clocksolo", "settle", "(IJ)I", 2, 33),
     (1, 36, "Clocksolo", "needSecondOfDay", "(I)V", 2, 28),
     (4, 39, "", "", "", 1000000000, 0),
     (1, 41, "Clocksolo", "numberOf", "(I)J", 2, 32),
     (1, 45, "Clocksolo", "partOf", "(JI)I", 2, 38),
     (0, 49, "Clocksolo", "KNOWN_NUMBERS", "[J", 2, 18),
     (2, 52, "java/lang/IllegalArgumentException", "", "", 23, 0),
     (3, 54, "", "which is not 0 to 2", "", 24, 0),
     (1, 56, "java/lang/IllegalArgumentException", "<init>", "(Ljava/lang/String;)V", 23, 0),
     (1, 59, "Clocksolo", "partNanos", "(I)J", 2, 39),
     (1, 62, "Clocksolo", "needStepUnit", "(I)V", 2, 30),
     (1, 65, "Clocksolo", "putOn", "(JIJ)J", 2, 41),
     (3, 69, "", "times is not 0 to 40", "", 28, 0),
     (1, 71, "Clocksolo", "needUnit", "(II)V", 2, 29),
     (1, 74, "Clocksolo", "cutNumber", "(JI)J", 2, 42),
     (3, 78, "", "what is not 0 to 4", "", 32, 0),
     (1, 80, "Clocksolo", "digits", "(J)Ljava/lang/String;", 2, 44),
     (2, 84, "java/lang/StringBuilder", "", "", 20, 0),
     (1, 86, "java/lang/StringBuilder", "<init>", "()V", 20, 0),
     (1, 87, "java/lang/StringBuilder", "append", "(I)Ljava/lang/StringBuilder;", 20, 3),
     (1, 91, "java/lang/StringBuilder", "append", "(C)Ljava/lang/StringBuilder;", 20, 2),
     (1, 94, "java/lang/StringBuilder", "toString", "()Ljava/lang/String;", 20, 6),
     (1, 98, "java/lang/Long", "compare", "(JJ)I", 17, 2),
     (1, 104, "Clocksolo", "unitsBetween", "(JJI)J", 2, 43),
     (1, 108, "Clocksolo", "clockAtPlace", "(I)I", 2, 34),
     (1, 112, "Clocksolo", "isUnlikeEarlier", "(I)Z", 2, 36),
     (3, 116, "", "what is not 0 or 1", "", 34, 0),
     (1, 118, "Clocksolo", "partsBelong", "(J)Z", 2, 45),
     (1, 122, "Clocksolo", "stepsHold", "(J)Z", 2, 46),
     (1, 125, "Clocksolo", "cutsHold", "(J)Z", 2, 49),
     (1, 128, "Clocksolo", "pairHolds", "(JJ)Z", 2, 50),
     (4, 132, "", "", "", 7788, 0),
     (4, 134, "", "", "", 31, 0),
     (1, 136, "Clocksolo", "digestClock", "(JJ)J", 2, 53),
     (1, 140, "Clocksolo", "digestPair", "(JJJ)J", 2, 54),
     (1, 144, "Clocksolo", "kinds", "()I", 2, 21),
     (1, 148, "Clocksolo", "order", "()Ljava/lang/String;", 2, 20),
     (1, 151, "java/lang/String", "length", "()I", 8, 1),
     (1, 156, "java/lang/String", "charAt", "(I)C", 8, 2),
     (1, 160, "Clocksolo", "isSound", "()Z", 2, 24),
     (2, 164, "java/lang/IndexOutOfBoundsException", "", "", 22, 0),
     (3, 166, "", "no such clock", "", 16, 0),
     (1, 168, "java/lang/IndexOutOfBoundsException", "<init>", "(Ljava/lang/String;)V", 22, 0),
     (0, 169, "Clocksolo", "PART_ENDS", "[I", 2, 16),
     (3, 173, "", "no such part", "", 18, 0),
     (3, 175, "", "this part can't be that", "", 20, 0),
     (5, 177, "", "", "", 86400, 0),
     (3, 178, "", "second is not 0 to 86399", "", 22, 0),
     (3, 180, "", "no such unit", "", 30, 0),
     (1, 182, "Clocksolo", "isStepUnit", "(I)Z", 2, 31),
     (3, 185, "", "unit is not 0 or 3 to 5", "", 26, 0),
     (1, 187, "Clocksolo", "placeOf", "(I)I", 2, 35),
     (4, 190, "", "", "", 3600, 0),
     (4, 192, "", "", "", 60, 0),
     (0, 194, "Clocksolo", "PART_NANOS", "[J", 2, 17),
     (0, 197, "Clocksolo", "UNIT_NANOS", "[J", 2, 15),
     (1, 200, "Clocksolo", "unitNanos", "(I)J", 2, 40),
     (4, 203, "", "", "", 86400000000000, 0),
     (1, 205, "java/lang/Math", "floorMod", "(JJ)J", 6, 0),
     (1, 210, "java/lang/Math", "abs", "(J)J", 6, 1),
     (4, 214, "", "", "", 48, 0),
     (4, 216, "", "", "", 10, 0),
     (1, 218, "java/lang/StringBuilder", "reverse", "()Ljava/lang/StringBuilder;", 20, 5),
     (0, 222, "Clocksolo", "TRIAL_AMOUNTS", "[I", 2, 19),
     (1, 225, "Clocksolo", "stepHolds", "(JIJ)Z", 2, 47),
     (1, 229, "Clocksolo", "reckonedOn", "(JIJ)J", 2, 48),
     (4, 232, "", "", "", 86400, 0),
     (1, 234, "Clocksolo", "comparedByParts", "(JJ)I", 2, 51),
     (1, 237, "Clocksolo", "betweenHolds", "(JJJ)Z", 2, 52),
     (1, 241, "java/lang/Integer", "compare", "(II)I", 16, 2)]
    [("numbers", .array .long, 0x12), ("knocks", .int, 0x2), ("changes", .int, 0x2)] (Lib.HandJ.method "<init>" "()V" [] none 0x1 1 prog_1_method_1_code) with
  methods := #[Lib.HandJ.method "<init>" "()V" [] none 0x1 1 prog_1_method_1_code,
    Lib.HandJ.method "tell" "(IIIII)I" [.int, .int, .int, .int, .int] (some .int) 0x1 6 prog_1_method_2_code,
    Lib.HandJ.method "tellSecond" "(II)I" [.int, .int] (some .int) 0x1 3 prog_1_method_3_code,
    Lib.HandJ.method "tellNumber" "(III)I" [.int, .int, .int] (some .int) 0x1 4 prog_1_method_4_code,
    Lib.HandJ.method "tellKnown" "(II)I" [.int, .int] (some .int) 0x1 3 prog_1_method_5_code,
    Lib.HandJ.method "take" "(II)I" [.int, .int] (some .int) 0x1 7 prog_1_method_6_code,
    Lib.HandJ.method "with" "(III)I" [.int, .int, .int] (some .int) 0x1 7 prog_1_method_7_code,
    Lib.HandJ.method "plus" "(IIII)I" [.int, .int, .int, .int] (some .int) 0x1 5 prog_1_method_8_code,
    Lib.HandJ.method "minus" "(IIII)I" [.int, .int, .int, .int] (some .int) 0x1 5 prog_1_method_9_code,
    Lib.HandJ.method "walk" "(IIII)I" [.int, .int, .int, .int] (some .int) 0x1 11 prog_1_method_10_code,
    Lib.HandJ.method "cut" "(II)I" [.int, .int] (some .int) 0x1 3 prog_1_method_11_code,
    Lib.HandJ.method "of" "(II)I" [.int, .int] (some .int) 0x1 3 prog_1_method_12_code,
    Lib.HandJ.method "number" "(I)Ljava/lang/String;" [.int] (some (.object "java/lang/String")) 0x1 2 prog_1_method_13_code,
    Lib.HandJ.method "text" "(I)Ljava/lang/String;" [.int] (some (.object "java/lang/String")) 0x1 5 prog_1_method_14_code,
    Lib.HandJ.method "beyond" "(II)Ljava/lang/String;" [.int, .int] (some (.object "java/lang/String")) 0x1 5 prog_1_method_15_code,
    Lib.HandJ.method "compare" "(II)I" [.int, .int] (some .int) 0x1 3 prog_1_method_16_code,
    Lib.HandJ.method "isAhead" "(II)Z" [.int, .int] (some .boolean) 0x1 3 prog_1_method_17_code,
    Lib.HandJ.method "isBehind" "(II)Z" [.int, .int] (some .boolean) 0x1 3 prog_1_method_18_code,
    Lib.HandJ.method "areAlike" "(II)Z" [.int, .int] (some .boolean) 0x1 3 prog_1_method_19_code,
    Lib.HandJ.method "between" "(III)Ljava/lang/String;" [.int, .int, .int] (some (.object "java/lang/String")) 0x1 4 prog_1_method_20_code,
    Lib.HandJ.method "order" "()Ljava/lang/String;" [] (some (.object "java/lang/String")) 0x1 3 prog_1_method_21_code,
    Lib.HandJ.method "kinds" "()I" [] (some .int) 0x1 3 prog_1_method_22_code,
    Lib.HandJ.method "knock" "()I" [] (some .int) 0x1 1 prog_1_method_23_code,
    Lib.HandJ.method "house" "(I)I" [.int] (some .int) 0x1 2 prog_1_method_24_code,
    Lib.HandJ.method "isSound" "()Z" [] (some .boolean) 0x1 5 prog_1_method_25_code,
    Lib.HandJ.method "digest" "()J" [] (some .long) 0x1 5 prog_1_method_26_code,
    Lib.HandJ.method "needClock" "(I)V" [.int] none 0xa 1 prog_1_method_27_code,
    Lib.HandJ.method "needPart" "(II)V" [.int, .int] none 0xa 2 prog_1_method_28_code,
    Lib.HandJ.method "needSecondOfDay" "(I)V" [.int] none 0xa 1 prog_1_method_29_code,
    Lib.HandJ.method "needUnit" "(II)V" [.int, .int] none 0xa 2 prog_1_method_30_code,
    Lib.HandJ.method "needStepUnit" "(I)V" [.int] none 0xa 1 prog_1_method_31_code,
    Lib.HandJ.method "isStepUnit" "(I)Z" [.int] (some .boolean) 0xa 1 prog_1_method_32_code,
    Lib.HandJ.method "numberOf" "(I)J" [.int] (some .long) 0x2 2 prog_1_method_33_code,
    Lib.HandJ.method "settle" "(IJ)I" [.int, .long] (some .int) 0x2 4 prog_1_method_34_code,
    Lib.HandJ.method "clockAtPlace" "(I)I" [.int] (some .int) 0x2 3 prog_1_method_35_code,
    Lib.HandJ.method "placeOf" "(I)I" [.int] (some .int) 0x2 8 prog_1_method_36_code,
    Lib.HandJ.method "isUnlikeEarlier" "(I)Z" [.int] (some .boolean) 0x2 3 prog_1_method_37_code,
    Lib.HandJ.method "numberOfParts" "(IIII)J" [.int, .int, .int, .int] (some .long) 0xa 4 prog_1_method_38_code,
    Lib.HandJ.method "partOf" "(JI)I" [.long, .int] (some .int) 0xa 4 prog_1_method_39_code,
    Lib.HandJ.method "partNanos" "(I)J" [.int] (some .long) 0xa 1 prog_1_method_40_code,
    Lib.HandJ.method "unitNanos" "(I)J" [.int] (some .long) 0xa 1 prog_1_method_41_code,
    Lib.HandJ.method "putOn" "(JIJ)J" [.long, .int, .long] (some .long) 0xa 11 prog_1_method_42_code,
    Lib.HandJ.method "cutNumber" "(JI)J" [.long, .int] (some .long) 0xa 5 prog_1_method_43_code,
    Lib.HandJ.method "unitsBetween" "(JJI)J" [.long, .long, .int] (some .long) 0xa 7 prog_1_method_44_code,
    Lib.HandJ.method "digits" "(J)Ljava/lang/String;" [.long] (some (.object "java/lang/String")) 0xa 6 prog_1_method_45_code,
    Lib.HandJ.method "partsBelong" "(J)Z" [.long] (some .boolean) 0xa 4 prog_1_method_46_code,
    Lib.HandJ.method "stepsHold" "(J)Z" [.long] (some .boolean) 0xa 4 prog_1_method_47_code,
    Lib.HandJ.method "stepHolds" "(JIJ)Z" [.long, .int, .long] (some .boolean) 0xa 7 prog_1_method_48_code,
    Lib.HandJ.method "reckonedOn" "(JIJ)J" [.long, .int, .long] (some .long) 0xa 9 prog_1_method_49_code,
    Lib.HandJ.method "cutsHold" "(J)Z" [.long] (some .boolean) 0xa 7 prog_1_method_50_code,
    Lib.HandJ.method "pairHolds" "(JJ)Z" [.long, .long] (some .boolean) 0xa 5 prog_1_method_51_code,
    Lib.HandJ.method "comparedByParts" "(JJ)I" [.long, .long] (some .int) 0xa 6 prog_1_method_52_code,
    Lib.HandJ.method "betweenHolds" "(JJJ)Z" [.long, .long, .long] (some .boolean) 0xa 9 prog_1_method_53_code,
    Lib.HandJ.method "digestClock" "(JJ)J" [.long, .long] (some .long) 0xa 7 prog_1_method_54_code,
    Lib.HandJ.method "digestPair" "(JJJ)J" [.long, .long, .long] (some .long) 0xa 9 prog_1_method_55_code],
  fields := (Lib.HandW.fieldsFrom [("numbers", .array .long, 0x12), ("knocks", .int, 0x2), ("changes", .int, 0x2)] 0).toArray ++ #[{ name := "CLOCKS", type := .int, accessFlags := 0x1a, slot := 0, constantValue := 0 }, { name := "HOUR", type := .int, accessFlags := 0x1a, slot := 1, constantValue := 0 }, { name := "MINUTE", type := .int, accessFlags := 0x1a, slot := 2, constantValue := 0 }, { name := "SECOND", type := .int, accessFlags := 0x1a, slot := 3, constantValue := 0 }, { name := "NANO", type := .int, accessFlags := 0x1a, slot := 4, constantValue := 0 }, { name := "SECOND_OF_DAY", type := .int, accessFlags := 0x1a, slot := 5, constantValue := 0 }, { name := "DAY", type := .int, accessFlags := 0x1a, slot := 6, constantValue := 0 }, { name := "DAY_SECONDS", type := .int, accessFlags := 0x1a, slot := 7, constantValue := 0 }, { name := "MOST_STEPS", type := .int, accessFlags := 0x1a, slot := 8, constantValue := 0 }, { name := "MOST_DIGITS", type := .int, accessFlags := 0x1a, slot := 9, constantValue := 0 }, { name := "SECOND_NANOS", type := .long, accessFlags := 0x1a, slot := 10, constantValue := 0 }, { name := "DAY_NANOS", type := .long, accessFlags := 0x1a, slot := 11, constantValue := 0 }, { name := "UNIT_NANOS", type := .array .long, accessFlags := 0x1a, slot := 12, constantValue := 0 }, { name := "PART_ENDS", type := .array .int, accessFlags := 0x1a, slot := 13, constantValue := 0 }, { name := "PART_NANOS", type := .array .long, accessFlags := 0x1a, slot := 14, constantValue := 0 }, { name := "KNOWN_NUMBERS", type := .array .long, accessFlags := 0x1a, slot := 15, constantValue := 0 }, { name := "TRIAL_AMOUNTS", type := .array .int, accessFlags := 0x1a, slot := 16, constantValue := 0 }],
  staticTypes := #[.int, .int, .int, .int, .int, .int, .int, .int, .int, .int, .long, .long, .array .long, .array .int, .array .long, .array .long, .array .int],
  statics := some 1 }
def start1.c3 : Class := { su_own "ClocksoloModel" 0x31
    [(1, 3, "java/lang/Object", "<init>", "()V", 1, 0),
     (0, 9, "ClocksoloModel", "its", "[J", 3, 1),
     (0, 13, "ClocksoloModel", "thrown", "I", 3, 0),
     (1, 17, "ClocksoloModel", "isIn", "(III)Z", 3, 2),
     (4, 21, "", "", "", 1000, 0),
     (4, 23, "", "", "", 60, 0),
     (4, 25, "", "", "", 12, 0),
     (4, 27, "", "", "", 2, 0),
     (4, 29, "", "", "", 1000000000, 0),
     (1, 31, "ClocksoloModel", "secondOf", "(J)I", 3, 6),
     (0, 35, "ClocksoloModel", "told", "I", 3, 3),
     (1, 38, "ClocksoloModel", "isNone", "(I)Z", 3, 3),
     (5, 42, "", "", "", 999999999, 0),
     (1, 43, "ClocksoloModel", "isStopped", "(ZZ)Z", 3, 4),
     (1, 47, "ClocksoloModel", "set", "(IJ)I", 3, 8),
     (5, 51, "", "", "", 86399, 0),
     (4, 52, "", "", "", 43200000000000, 0),
     (4, 54, "", "", "", 86399999999999, 0),
     (1, 56, "ClocksoloModel", "part", "(JI)I", 3, 7),
     (4, 60, "", "", "", 3600000000000, 0),
     (4, 62, "", "", "", 60000000000, 0),
     (4, 64, "", "", "", 86400000000000, 0),
     (1, 66, "ClocksoloModel", "size", "(I)J", 3, 5),
     (1, 70, "ClocksoloModel", "isNoStep", "(I)Z", 3, 15),
     (1, 73, "ClocksoloModel", "on", "(JIJ)J", 3, 16),
     (3, 77, "", "", "", 36, 0),
     (2, 79, "java/lang/StringBuilder", "", "", 20, 0),
     (1, 81, "java/lang/StringBuilder", "<init>", "()V", 20, 0),
     (1, 82, "java/lang/StringBuilder", "append", "(Ljava/lang/String;)Ljava/lang/StringBuilder;", 20, 1),
     (1, 86, "java/lang/StringBuilder", "append", "(J)Ljava/lang/StringBuilder;", 20, 4),
     (1, 89, "java/lang/StringBuilder", "toString", "()Ljava/lang/String;", 20, 6),
     (1, 93, "java/lang/StringBuilder", "append", "(I)Ljava/lang/StringBuilder;", 20, 3),
     (3, 96, "", ":", "", 38, 0),
     (3, 98, "", ".", "", 40, 0),
     (1, 100, "ClocksoloModel", "order", "(JJ)I", 3, 25),
     (1, 104, "ClocksoloModel", "apart", "(III)J", 3, 30),
     (3, 108, "", " ", "", 42, 0),
     (1, 110, "ClocksoloModel", "ordered", "()Ljava/lang/String;", 3, 32),
     (1, 113, "ClocksoloModel", "unlike", "()I", 3, 34),
     (0, 117, "ClocksoloModel", "knocks", "I", 3, 2),
     (1, 120, "ClocksoloModel", "refused", "()Z", 3, 38),
     (4, 124, "", "", "", 31, 0),
     (4, 126, "", "", "", 7788, 0),
     (1, 128, "ClocksoloModel", "add", "(JJ)J", 3, 40),
     (1, 132, "java/lang/String", "length", "()I", 8, 1),
     (1, 137, "java/lang/String", "charAt", "(I)C", 8, 2)]
    [("thrown", .int, 0x2), ("its", .array .long, 0x12), ("knocks", .int, 0x2), ("told", .int, 0x2)] (Lib.HandJ.method "<init>" "()V" [] none 0x1 1 prog_4_method_1_code) with
  methods := #[Lib.HandJ.method "<init>" "()V" [] none 0x1 1 prog_4_method_1_code,
    Lib.HandJ.method "thrown" "()I" [] (some .int) 0x1 1 prog_4_method_2_code,
    Lib.HandJ.method "isIn" "(III)Z" [.int, .int, .int] (some .boolean) 0xa 3 prog_4_method_3_code,
    Lib.HandJ.method "isNone" "(I)Z" [.int] (some .boolean) 0xa 1 prog_4_method_4_code,
    Lib.HandJ.method "isStopped" "(ZZ)Z" [.boolean, .boolean] (some .boolean) 0x2 3 prog_4_method_5_code,
    Lib.HandJ.method "size" "(I)J" [.int] (some .long) 0xa 4 prog_4_method_6_code,
    Lib.HandJ.method "secondOf" "(J)I" [.long] (some .int) 0xa 2 prog_4_method_7_code,
    Lib.HandJ.method "part" "(JI)I" [.long, .int] (some .int) 0xa 4 prog_4_method_8_code,
    Lib.HandJ.method "set" "(IJ)I" [.int, .long] (some .int) 0x2 4 prog_4_method_9_code,
    Lib.HandJ.method "tell" "(IIIII)I" [.int, .int, .int, .int, .int] (some .int) 0x1 6 prog_4_method_10_code,
    Lib.HandJ.method "tellSecond" "(II)I" [.int, .int] (some .int) 0x1 3 prog_4_method_11_code,
    Lib.HandJ.method "tellNumber" "(III)I" [.int, .int, .int] (some .int) 0x1 4 prog_4_method_12_code,
    Lib.HandJ.method "tellKnown" "(II)I" [.int, .int] (some .int) 0x1 3 prog_4_method_13_code,
    Lib.HandJ.method "take" "(II)I" [.int, .int] (some .int) 0x1 4 prog_4_method_14_code,
    Lib.HandJ.method "with" "(III)I" [.int, .int, .int] (some .int) 0x1 8 prog_4_method_15_code,
    Lib.HandJ.method "isNoStep" "(I)Z" [.int] (some .boolean) 0xa 1 prog_4_method_16_code,
    Lib.HandJ.method "on" "(JIJ)J" [.long, .int, .long] (some .long) 0xa 9 prog_4_method_17_code,
    Lib.HandJ.method "plus" "(IIII)I" [.int, .int, .int, .int] (some .int) 0x1 5 prog_4_method_18_code,
    Lib.HandJ.method "minus" "(IIII)I" [.int, .int, .int, .int] (some .int) 0x1 5 prog_4_method_19_code,
    Lib.HandJ.method "walk" "(IIII)I" [.int, .int, .int, .int] (some .int) 0x1 11 prog_4_method_20_code,
    Lib.HandJ.method "cut" "(II)I" [.int, .int] (some .int) 0x1 3 prog_4_method_21_code,
    Lib.HandJ.method "of" "(II)I" [.int, .int] (some .int) 0x1 3 prog_4_method_22_code,
    Lib.HandJ.method "number" "(I)Ljava/lang/String;" [.int] (some (.object "java/lang/String")) 0x1 2 prog_4_method_23_code,
    Lib.HandJ.method "text" "(I)Ljava/lang/String;" [.int] (some (.object "java/lang/String")) 0x1 2 prog_4_method_24_code,
    Lib.HandJ.method "beyond" "(II)Ljava/lang/String;" [.int, .int] (some (.object "java/lang/String")) 0x1 3 prog_4_method_25_code,
    Lib.HandJ.method "order" "(JJ)I" [.long, .long] (some .int) 0xa 4 prog_4_method_26_code,
    Lib.HandJ.method "compare" "(II)I" [.int, .int] (some .int) 0x1 3 prog_4_method_27_code,
    Lib.HandJ.method "isAhead" "(II)Z" [.int, .int] (some .boolean) 0x1 3 prog_4_method_28_code,
    Lib.HandJ.method "isBehind" "(II)Z" [.int, .int] (some .boolean) 0x1 3 prog_4_method_29_code,
    Lib.HandJ.method "areAlike" "(II)Z" [.int, .int] (some .boolean) 0x1 3 prog_4_method_30_code,
    Lib.HandJ.method "apart" "(III)J" [.int, .int, .int] (some .long) 0x2 4 prog_4_method_31_code,
    Lib.HandJ.method "between" "(III)Ljava/lang/String;" [.int, .int, .int] (some (.object "java/lang/String")) 0x1 4 prog_4_method_32_code,
    Lib.HandJ.method "ordered" "()Ljava/lang/String;" [] (some (.object "java/lang/String")) 0x2 6 prog_4_method_33_code,
    Lib.HandJ.method "order" "()Ljava/lang/String;" [] (some (.object "java/lang/String")) 0x1 1 prog_4_method_34_code,
    Lib.HandJ.method "unlike" "()I" [] (some .int) 0x2 5 prog_4_method_35_code,
    Lib.HandJ.method "kinds" "()I" [] (some .int) 0x1 1 prog_4_method_36_code,
    Lib.HandJ.method "knock" "()I" [] (some .int) 0x1 1 prog_4_method_37_code,
    Lib.HandJ.method "house" "(I)I" [.int] (some .int) 0x1 2 prog_4_method_38_code,
    Lib.HandJ.method "refused" "()Z" [] (some .boolean) 0x2 1 prog_4_method_39_code,
    Lib.HandJ.method "isSound" "()Z" [] (some .boolean) 0x1 1 prog_4_method_40_code,
    Lib.HandJ.method "add" "(JJ)J" [.long, .long] (some .long) 0xa 4 prog_4_method_41_code,
    Lib.HandJ.method "digest" "()J" [] (some .long) 0x1 9 prog_4_method_42_code] }
def start1.c4 : Class := { su_own "ClocksoloLaw$Out" 0x30
    [(1, 1, "java/lang/Object", "<init>", "()V", 1, 0)]
    [("n", .long, 0x2), ("s", .object "java/lang/String", 0x2)] (Lib.HandJ.method "<init>" "()V" [] none 0x2 1 prog_3_method_1_code) with
  methods := #[Lib.HandJ.method "<init>" "()V" [] none 0x2 1 prog_3_method_1_code],
  nestHost := some 0 }
def start1.c5 : Class := { su_own "java/lang/Throwable" 0x21
    [(1, 1, "java/lang/Object", "<init>", "()V", 1, 0),
     (0, 7, "java/lang/Throwable", "cause", "Ljava/lang/Throwable;", 5, 2),
     (0, 13, "java/lang/Throwable", "UNASSIGNED_STACK", "[Ljava/lang/StackTraceElement;", 5, 7),
     (0, 17, "java/lang/Throwable", "stackTrace", "[Ljava/lang/StackTraceElement;", 5, 3),
     (0, 20, "java/lang/Throwable", "SUPPRESSED_SENTINEL", "Ljava/util/List;", 5, 8),
     (0, 24, "java/lang/Throwable", "suppressedExceptions", "Ljava/util/List;", 5, 5),
     (1, 27, "java/lang/Throwable", "fillInStackTrace", "()Ljava/lang/Throwable;", 5, 2),
     (0, 31, "java/lang/Throwable", "detailMessage", "Ljava/lang/String;", 5, 1),
     (0, 198, "java/lang/Throwable", "backtrace", "Ljava/lang/Object;", 5, 0),
     (1, 202, "java/lang/Throwable", "fillInStackTrace", "(I)Ljava/lang/Throwable;", 5, 3)]
    [("backtrace", .object "java/lang/Object", 0x82), ("detailMessage", .object "java/lang/String", 0x2), ("cause", .object "java/lang/Throwable", 0x2), ("stackTrace", .array (.object "java/lang/StackTraceElement"), 0x2), ("depth", .int, 0x82), ("suppressedExceptions", .object "java/util/List", 0x2)] (Lib.HandJ.method "<init>" "()V" [] none 0x1 1 prog_20_method_1_code) with
  methods := #[Lib.HandJ.method "<init>" "()V" [] none 0x1 1 prog_20_method_1_code,
    Lib.HandJ.method "<init>" "(Ljava/lang/String;)V" [.object "java/lang/String"] none 0x1 2 prog_20_method_2_code,
    Lib.HandJ.method "fillInStackTrace" "()Ljava/lang/Throwable;" [] (some (.object "java/lang/Throwable")) 0x21 1 prog_20_method_18_code,
    { name := "fillInStackTrace", desc := "(I)Ljava/lang/Throwable;", sig := { parameters := [.int], returnType := some (.object "java/lang/Throwable") }, accessFlags := 0x102, code := none }],
  fields := (Lib.HandW.fieldsFrom [("backtrace", .object "java/lang/Object", 0x82), ("detailMessage", .object "java/lang/String", 0x2), ("cause", .object "java/lang/Throwable", 0x2), ("stackTrace", .array (.object "java/lang/StackTraceElement"), 0x2), ("depth", .int, 0x82), ("suppressedExceptions", .object "java/util/List", 0x2)] 0).toArray ++ #[{ name := "serialVersionUID", type := .long, accessFlags := 0x1a, slot := 0, constantValue := 0 }, { name := "UNASSIGNED_STACK", type := .array (.object "java/lang/StackTraceElement"), accessFlags := 0x1a, slot := 1, constantValue := 0 }, { name := "SUPPRESSED_SENTINEL", type := .object "java/util/List", accessFlags := 0x1a, slot := 2, constantValue := 0 }, { name := "NULL_CAUSE_MESSAGE", type := .object "java/lang/String", accessFlags := 0x1a, slot := 3, constantValue := 0 }, { name := "SELF_SUPPRESSION_MESSAGE", type := .object "java/lang/String", accessFlags := 0x1a, slot := 4, constantValue := 0 }, { name := "CAUSE_CAPTION", type := .object "java/lang/String", accessFlags := 0x1a, slot := 5, constantValue := 0 }, { name := "SUPPRESSED_CAPTION", type := .object "java/lang/String", accessFlags := 0x1a, slot := 6, constantValue := 0 }, { name := "EMPTY_THROWABLE_ARRAY", type := .array (.object "java/lang/Throwable"), accessFlags := 0x1a, slot := 7, constantValue := 0 }, { name := "$assertionsDisabled", type := .boolean, accessFlags := 0x1018, slot := 8, constantValue := 0 }],
  staticTypes := #[.long, .array (.object "java/lang/StackTraceElement"), .object "java/util/List", .object "java/lang/String", .object "java/lang/String", .object "java/lang/String", .object "java/lang/String", .array (.object "java/lang/Throwable"), .boolean],
  statics := some 2 }
def start1.c6 : Class := { su_own "java/lang/Math" 0x31
    []
    [] (Lib.HandJ.method "floorMod" "(JJ)J" [.long, .long] (some .long) 0x9 6 prog_13_method_52_code) with
  methods := #[Lib.HandJ.method "floorMod" "(JJ)J" [.long, .long] (some .long) 0x9 6 prog_13_method_52_code,
    Lib.HandJ.method "abs" "(J)J" [.long] (some .long) 0x9 2 prog_13_method_61_code,
    Lib.HandJ.method "max" "(II)I" [.int, .int] (some .int) 0x9 2 prog_13_method_65_code,
    Lib.HandJ.method "min" "(II)I" [.int, .int] (some .int) 0x9 2 prog_13_method_69_code] }
def start1.c7 : Class := { su_own "java/lang/AbstractStringBuilder" 0x420
    [(1, 3, "java/lang/Object", "<init>", "()V", 1, 0),
     (0, 15, "java/lang/AbstractStringBuilder", "value", "[B", 7, 0),
     (0, 18, "java/lang/String", "COMPACT_STRINGS", "Z", 8, 5),
     (0, 22, "java/lang/AbstractStringBuilder", "coder", "B", 7, 1),
     (1, 26, "java/lang/StringUTF16", "newBytesFor", "(I)[B", 9, 0),
     (1, 32, "java/lang/String", "length", "()I", 8, 1),
     (5, 39, "", "", "", 2147483647, 0),
     (1, 40, "java/lang/String", "coder", "()B", 8, 6),
     (0, 79, "java/lang/AbstractStringBuilder", "count", "I", 7, 3),
     (1, 83, "java/lang/AbstractStringBuilder", "isLatin1", "()Z", 7, 12),
     (1, 100, "java/lang/AbstractStringBuilder", "ensureCapacityInternal", "(I)V", 7, 2),
     (1, 104, "java/lang/AbstractStringBuilder", "newCapacity", "(I)I", 7, 3),
     (1, 108, "java/util/Arrays", "copyOf", "([BI)[B", 11, 0),
     (1, 114, "jdk/internal/util/ArraysSupport", "newLength", "(III)I", 10, 0),
     (1, 125, "java/lang/StringLatin1", "inflate", "([BI[BII)V", 13, 3),
     (1, 191, "java/lang/StringLatin1", "canEncode", "(C)Z", 13, 1),
     (1, 195, "java/lang/AbstractStringBuilder", "inflate", "()V", 7, 4),
     (1, 197, "java/lang/StringUTF16", "putCharSB", "([BII)V", 9, 8),
     (1, 204, "java/lang/AbstractStringBuilder", "appendNull", "()Ljava/lang/AbstractStringBuilder;", 7, 6),
     (1, 208, "java/lang/AbstractStringBuilder", "putStringAt", "(ILjava/lang/String;)V", 7, 14),
     (1, 226, "java/lang/StringUTF16", "putCharsAt", "([BICCCC)I", 9, 11),
     (1, 245, "java/lang/Integer", "stringSize", "(I)I", 16, 1),
     (1, 248, "java/lang/Integer", "getChars", "(II[B)I", 16, 0),
     (1, 251, "java/lang/StringUTF16", "getChars", "(III[B)I", 9, 9),
     (1, 254, "java/lang/Long", "stringSize", "(J)I", 17, 1),
     (1, 259, "java/lang/Long", "getChars", "(JI[B)I", 17, 0),
     (1, 262, "java/lang/StringUTF16", "getChars", "(JII[B)I", 9, 10),
     (1, 358, "java/lang/StringUTF16", "reverse", "([BI)V", 9, 13),
     (1, 397, "java/lang/AbstractStringBuilder", "inflateIfNeededFor", "(Ljava/lang/String;)V", 7, 13),
     (1, 399, "java/lang/String", "getBytes", "([BIB)V", 8, 4)]
    [("value", .array .byte, 0x0), ("coder", .byte, 0x0), ("maybeLatin1", .boolean, 0x0), ("count", .int, 0x0)] (Lib.HandJ.method "<init>" "(I)V" [.int] none 0x0 2 prog_5_method_2_code) with
  methods := #[Lib.HandJ.method "<init>" "(I)V" [.int] none 0x0 2 prog_5_method_2_code,
    Lib.HandJ.method "length" "()I" [] (some .int) 0x1 1 prog_5_method_6_code,
    Lib.HandJ.method "ensureCapacityInternal" "(I)V" [.int] none 0x2 3 prog_5_method_9_code,
    Lib.HandJ.method "newCapacity" "(I)I" [.int] (some .int) 0x2 6 prog_5_method_10_code,
    Lib.HandJ.method "inflate" "()V" [] none 0x2 2 prog_5_method_11_code,
    Lib.HandJ.method "append" "(Ljava/lang/String;)Ljava/lang/AbstractStringBuilder;" [.object "java/lang/String"] (some (.object "java/lang/AbstractStringBuilder")) 0x1 3 prog_5_method_22_code,
    Lib.HandJ.method "appendNull" "()Ljava/lang/AbstractStringBuilder;" [] (some (.object "java/lang/AbstractStringBuilder")) 0x2 3 prog_5_method_26_code,
    Lib.HandJ.method "append" "(C)Ljava/lang/AbstractStringBuilder;" [.char] (some (.object "java/lang/AbstractStringBuilder")) 0x1 2 prog_5_method_31_code,
    Lib.HandJ.method "append" "(I)Ljava/lang/AbstractStringBuilder;" [.int] (some (.object "java/lang/AbstractStringBuilder")) 0x1 4 prog_5_method_32_code,
    Lib.HandJ.method "append" "(J)Ljava/lang/AbstractStringBuilder;" [.long] (some (.object "java/lang/AbstractStringBuilder")) 0x1 5 prog_5_method_33_code,
    Lib.HandJ.method "reverse" "()Ljava/lang/AbstractStringBuilder;" [] (some (.object "java/lang/AbstractStringBuilder")) 0x1 7 prog_5_method_60_code,
    Lib.HandJ.method "getValue" "()[B" [] (some (.array .byte)) 0x10 1 prog_5_method_64_code,
    Lib.HandJ.method "isLatin1" "()Z" [] (some .boolean) 0x10 1 prog_5_method_68_code,
    Lib.HandJ.method "inflateIfNeededFor" "(Ljava/lang/String;)V" [.object "java/lang/String"] none 0x2 2 prog_5_method_71_code,
    Lib.HandJ.method "putStringAt" "(ILjava/lang/String;)V" [.int, .object "java/lang/String"] none 0x2 3 prog_5_method_73_code] }
def start1.c8 : Class := { su_own "java/lang/String" 0x31
    [(1, 1, "java/lang/Object", "<init>", "()V", 1, 0),
     (0, 9, "java/lang/String", "value", "[B", 8, 0),
     (2, 10, "java/lang/String", "", "", 8, 0),
     (0, 15, "java/lang/String", "coder", "B", 8, 1),
     (0, 38, "java/lang/String", "COMPACT_STRINGS", "Z", 8, 5),
     (1, 47, "java/lang/StringUTF16", "coderFromArrayLen", "([BI)B", 9, 5),
     (1, 54, "java/util/Arrays", "copyOfRange", "([BII)[B", 11, 2),
     (1, 106, "java/lang/StringLatin1", "inflate", "([BI[BII)V", 13, 3),
     (1, 212, "java/lang/System", "arraycopy", "(Ljava/lang/Object;ILjava/lang/Object;II)V", 12, 0),
     (1, 335, "java/lang/String", "coder", "()B", 8, 6),
     (1, 489, "java/lang/String", "<init>", "(Ljava/lang/AbstractStringBuilder;Ljava/lang/Void;)V", 8, 5),
     (1, 492, "java/lang/String", "isLatin1", "()Z", 8, 7),
     (1, 495, "java/lang/StringLatin1", "charAt", "([BI)C", 13, 0),
     (1, 498, "java/lang/StringUTF16", "charAt", "([BI)C", 9, 12),
     (1, 541, "java/lang/StringLatin1", "equals", "([B[B)Z", 13, 2),
     (1, 549, "java/lang/AbstractStringBuilder", "length", "()I", 7, 1),
     (1, 552, "java/lang/AbstractStringBuilder", "getValue", "()[B", 7, 11),
     (1, 1047, "java/lang/AbstractStringBuilder", "isLatin1", "()Z", 7, 12),
     (0, 1048, "java/lang/AbstractStringBuilder", "maybeLatin1", "Z", 7, 2),
     (1, 1051, "java/lang/StringUTF16", "compress", "([BII)[B", 9, 6),
     (0, 1053, "jdk/internal/util/Preconditions", "SIOOBE_FORMATTER", "Ljava/util/function/BiFunction;", 14, 0),
     (1, 1059, "jdk/internal/util/Preconditions", "checkIndex", "(IILjava/util/function/BiFunction;)I", 14, 0),
     (1, 1062, "jdk/internal/util/Preconditions", "checkFromToIndex", "(IIILjava/util/function/BiFunction;)I", 14, 1),
     (1, 1065, "jdk/internal/util/Preconditions", "checkFromIndexSize", "(IIILjava/util/function/BiFunction;)I", 14, 2)]
    [("value", .array .byte, 0x12), ("coder", .byte, 0x12), ("hash", .int, 0x2), ("hashIsZero", .boolean, 0x2)] (Lib.HandJ.method "<init>" "(Ljava/lang/StringBuilder;)V" [.object "java/lang/StringBuilder"] none 0x1 2 prog_15_method_53_code) with
  methods := #[Lib.HandJ.method "<init>" "(Ljava/lang/StringBuilder;)V" [.object "java/lang/StringBuilder"] none 0x1 2 prog_15_method_53_code,
    Lib.HandJ.method "length" "()I" [] (some .int) 0x1 1 prog_15_method_54_code,
    Lib.HandJ.method "charAt" "(I)C" [.int] (some .char) 0x1 2 prog_15_method_56_code,
    Lib.HandJ.method "equals" "(Ljava/lang/Object;)Z" [.object "java/lang/Object"] (some .boolean) 0x1 3 prog_15_method_66_code,
    Lib.HandJ.method "getBytes" "([BIB)V" [.array .byte, .int, .byte] none 0x0 4 prog_15_method_147_code,
    Lib.HandJ.method "<init>" "(Ljava/lang/AbstractStringBuilder;Ljava/lang/Void;)V" [.object "java/lang/AbstractStringBuilder", .object "java/lang/Void"] none 0x0 5 prog_15_method_150_code,
    Lib.HandJ.method "coder" "()B" [] (some .byte) 0x0 1 prog_15_method_152_code,
    Lib.HandJ.method "isLatin1" "()Z" [] (some .boolean) 0x0 1 prog_15_method_154_code,
    Lib.HandJ.method "checkIndex" "(II)V" [.int, .int] none 0x8 2 prog_15_method_155_code,
    Lib.HandJ.method "checkOffset" "(II)V" [.int, .int] none 0x8 2 prog_15_method_156_code,
    Lib.HandJ.method "checkBoundsOffCount" "(III)I" [.int, .int, .int] (some .int) 0x8 3 prog_15_method_157_code,
    Lib.HandJ.method "checkBoundsBeginEnd" "(III)V" [.int, .int, .int] none 0x8 3 prog_15_method_158_code],
  fields := (Lib.HandW.fieldsFrom [("value", .array .byte, 0x12), ("coder", .byte, 0x12), ("hash", .int, 0x2), ("hashIsZero", .boolean, 0x2)] 0).toArray ++ #[{ name := "serialVersionUID", type := .long, accessFlags := 0x1a, slot := 0, constantValue := 0 }, { name := "COMPACT_STRINGS", type := .boolean, accessFlags := 0x18, slot := 1, constantValue := 0 }, { name := "serialPersistentFields", type := .array (.object "java/io/ObjectStreamField"), accessFlags := 0x1a, slot := 2, constantValue := 0 }, { name := "REPL", type := .char, accessFlags := 0x1a, slot := 3, constantValue := 0 }, { name := "CASE_INSENSITIVE_ORDER", type := .object "java/util/Comparator", accessFlags := 0x19, slot := 4, constantValue := 0 }, { name := "LATIN1", type := .byte, accessFlags := 0x18, slot := 5, constantValue := 0 }, { name := "UTF16", type := .byte, accessFlags := 0x18, slot := 6, constantValue := 0 }],
  staticTypes := #[.long, .boolean, .array (.object "java/io/ObjectStreamField"), .char, .object "java/util/Comparator", .byte, .byte],
  statics := some 3 }
def start1.c9 : Class := { su_own "java/lang/StringUTF16" 0x30
    [(1, 11, "java/lang/StringUTF16", "newBytesLength", "(I)I", 9, 1),
     (5, 20, "", "", "", 1073741823, 0),
     (0, 44, "java/lang/StringUTF16", "$assertionsDisabled", "Z", 9, 3),
     (1, 48, "java/lang/StringUTF16", "length", "([B)I", 9, 4),
     (0, 59, "java/lang/StringUTF16", "HI_BYTE_SHIFT", "I", 9, 0),
     (0, 63, "java/lang/StringUTF16", "LO_BYTE_SHIFT", "I", 9, 1),
     (1, 67, "java/lang/StringUTF16", "checkIndex", "(I[B)V", 9, 18),
     (1, 71, "java/lang/StringUTF16", "getChar", "([BI)C", 9, 3),
     (1, 75, "java/lang/Character", "isHighSurrogate", "(C)Z", 15, 0),
     (1, 81, "java/lang/Character", "isLowSurrogate", "(C)Z", 15, 1),
     (1, 96, "java/lang/StringUTF16", "checkBoundsBeginEnd", "(II[B)V", 9, 20),
     (1, 111, "java/lang/StringUTF16", "putChar", "([BII)V", 9, 2),
     (1, 123, "java/lang/StringUTF16", "compress", "([BI[BII)I", 9, 7),
     (1, 126, "java/util/Arrays", "copyOfRange", "([BII)[B", 11, 2),
     (1, 173, "java/lang/StringUTF16", "checkBoundsOffCount", "(II[B)V", 9, 21),
     (1, 180, "java/lang/StringUTF16", "checkOffset", "(I[B)V", 9, 19),
     (1, 212, "java/lang/Character", "isSurrogate", "(C)Z", 15, 2),
     (1, 241, "java/lang/String", "checkBoundsBeginEnd", "(III)V", 8, 11),
     (1, 393, "java/lang/StringUTF16", "getChars", "(II[B)I", 9, 16),
     (1, 396, "java/lang/StringUTF16", "getChars", "(JI[B)I", 9, 17),
     (1, 399, "java/lang/StringUTF16", "reverseAllValidSurrogatePairs", "([BI)V", 9, 14),
     (0, 403, "java/lang/Integer", "DigitOnes", "[B", 16, 6),
     (0, 407, "java/lang/Integer", "DigitTens", "[B", 16, 5),
     (4, 410, "", "", "", 18446744071562067968, 0),
     (4, 412, "", "", "", 100, 0),
     (1, 414, "java/lang/String", "checkIndex", "(II)V", 8, 8),
     (1, 417, "java/lang/String", "checkOffset", "(II)V", 8, 9),
     (1, 419, "java/lang/String", "checkBoundsOffCount", "(III)I", 8, 10)]
    [] (Lib.HandJ.method "newBytesFor" "(I)[B" [.int] (some (.array .byte)) 0x9 1 prog_18_method_2_code) with
  methods := #[Lib.HandJ.method "newBytesFor" "(I)[B" [.int] (some (.array .byte)) 0x9 1 prog_18_method_2_code,
    Lib.HandJ.method "newBytesLength" "(I)I" [.int] (some .int) 0x9 1 prog_18_method_3_code,
    Lib.HandJ.method "putChar" "([BII)V" [.array .byte, .int, .int] none 0x8 3 prog_18_method_4_code,
    Lib.HandJ.method "getChar" "([BI)C" [.array .byte, .int] (some .char) 0x8 2 prog_18_method_5_code,
    Lib.HandJ.method "length" "([B)I" [.array .byte] (some .int) 0x9 1 prog_18_method_6_code,
    Lib.HandJ.method "coderFromArrayLen" "([BI)B" [.array .byte, .int] (some .byte) 0x8 2 prog_18_method_15_code,
    Lib.HandJ.method "compress" "([BII)[B" [.array .byte, .int, .int] (some (.array .byte)) 0x9 6 prog_18_method_17_code,
    Lib.HandJ.method "compress" "([BI[BII)I" [.array .byte, .int, .array .byte, .int, .int] (some .int) 0x9 7 prog_18_method_22_code,
    Lib.HandJ.method "putCharSB" "([BII)V" [.array .byte, .int, .int] none 0x9 3 prog_18_method_71_code,
    Lib.HandJ.method "getChars" "(III[B)I" [.int, .int, .int, .array .byte] (some .int) 0x9 5 prog_18_method_77_code,
    Lib.HandJ.method "getChars" "(JII[B)I" [.long, .int, .int, .array .byte] (some .int) 0x9 6 prog_18_method_78_code,
    Lib.HandJ.method "putCharsAt" "([BICCCC)I" [.array .byte, .int, .char, .char, .char, .char] (some .int) 0x9 7 prog_18_method_81_code,
    Lib.HandJ.method "charAt" "([BI)C" [.array .byte, .int] (some .char) 0x9 2 prog_18_method_83_code,
    Lib.HandJ.method "reverse" "([BI)V" [.array .byte, .int] none 0x9 8 prog_18_method_84_code,
    Lib.HandJ.method "reverseAllValidSurrogatePairs" "([BI)V" [.array .byte, .int] none 0xa 5 prog_18_method_85_code,
    Lib.HandJ.method "inflate" "([BI[BII)V" [.array .byte, .int, .array .byte, .int, .int] none 0x9 6 prog_18_method_86_code,
    Lib.HandJ.method "getChars" "(II[B)I" [.int, .int, .array .byte] (some .int) 0x8 7 prog_18_method_89_code,
    Lib.HandJ.method "getChars" "(JI[B)I" [.long, .int, .array .byte] (some .int) 0x8 11 prog_18_method_90_code,
    Lib.HandJ.method "checkIndex" "(I[B)V" [.int, .array .byte] none 0x9 2 prog_18_method_91_code,
    Lib.HandJ.method "checkOffset" "(I[B)V" [.int, .array .byte] none 0x9 2 prog_18_method_92_code,
    Lib.HandJ.method "checkBoundsBeginEnd" "(II[B)V" [.int, .int, .array .byte] none 0x9 3 prog_18_method_93_code,
    Lib.HandJ.method "checkBoundsOffCount" "(II[B)V" [.int, .int, .array .byte] none 0x9 3 prog_18_method_94_code],
  fields := (Lib.HandW.fieldsFrom [] 0).toArray ++ #[{ name := "HI_BYTE_SHIFT", type := .int, accessFlags := 0x1a, slot := 0, constantValue := 0 }, { name := "LO_BYTE_SHIFT", type := .int, accessFlags := 0x1a, slot := 1, constantValue := 0 }, { name := "MAX_LENGTH", type := .int, accessFlags := 0x18, slot := 2, constantValue := 0 }, { name := "$assertionsDisabled", type := .boolean, accessFlags := 0x1018, slot := 3, constantValue := 0 }],
  staticTypes := #[.int, .int, .int, .boolean],
  statics := some 4 }
def start1.c10 : Class := { su_own "jdk/internal/util/ArraysSupport" 0x21
    [(1, 194, "java/lang/Math", "max", "(II)I", 6, 2),
     (5, 200, "", "", "", 2147483639, 0),
     (1, 201, "jdk/internal/util/ArraysSupport", "hugeLength", "(II)I", 10, 1)]
    [] (Lib.HandJ.method "newLength" "(III)I" [.int, .int, .int] (some .int) 0x9 4 prog_22_method_27_code) with
  methods := #[Lib.HandJ.method "newLength" "(III)I" [.int, .int, .int] (some .int) 0x9 4 prog_22_method_27_code,
    Lib.HandJ.method "hugeLength" "(II)I" [.int, .int] (some .int) 0xa 3 prog_22_method_28_code] }
def start1.c11 : Class := suRes [(407, .cls 29)] <| { su_own "java/util/Arrays" 0x31
    [(2, 43, "java/lang/IllegalArgumentException", "", "", 23, 0),
     (2, 45, "java/lang/StringBuilder", "", "", 20, 0),
     (1, 47, "java/lang/StringBuilder", "<init>", "()V", 20, 0),
     (1, 50, "java/lang/StringBuilder", "append", "(Ljava/lang/String;)Ljava/lang/StringBuilder;", 20, 1),
     (1, 54, "java/lang/StringBuilder", "append", "(I)Ljava/lang/StringBuilder;", 20, 3),
     (1, 61, "java/lang/StringBuilder", "toString", "()Ljava/lang/String;", 20, 6),
     (1, 65, "java/lang/IllegalArgumentException", "<init>", "(Ljava/lang/String;)V", 23, 0),
     (1, 150, "java/lang/System", "arraycopy", "(Ljava/lang/Object;ILjava/lang/Object;II)V", 12, 0),
     (1, 304, "java/lang/Math", "min", "(II)I", 6, 3),
     (1, 310, "[B", "clone", "()Ljava/lang/Object;", 1, 1),
     (2, 311, "[B", "", "", 29, 0),
     (3, 337, "", " > ", "", 14, 0),
     (1, 339, "java/util/Arrays", "copyOfRangeByte", "([BII)[B", 11, 3),
     (1, 343, "java/util/Arrays", "checkLength", "(II)V", 11, 1)]
    [] (Lib.HandJ.method "copyOf" "([BI)[B" [.array .byte, .int] (some (.array .byte)) 0x9 3 prog_21_method_121_code) with
  methods := #[Lib.HandJ.method "copyOf" "([BI)[B" [.array .byte, .int] (some (.array .byte)) 0x9 3 prog_21_method_121_code,
    Lib.HandJ.method "checkLength" "(II)V" [.int, .int] none 0xa 2 prog_21_method_131_code,
    Lib.HandJ.method "copyOfRange" "([BII)[B" [.array .byte, .int, .int] (some (.array .byte)) 0x9 3 prog_21_method_132_code,
    Lib.HandJ.method "copyOfRangeByte" "([BII)[B" [.array .byte, .int, .int] (some (.array .byte)) 0xa 5 prog_21_method_133_code] }
def start1.c12 : Class := { su_own "java/lang/System" 0x31
    []
    [] ({ name := "arraycopy", desc := "(Ljava/lang/Object;ILjava/lang/Object;II)V", sig := { parameters := [.object "java/lang/Object", .int, .object "java/lang/Object", .int, .int], returnType := none }, accessFlags := 0x109, code := none }) with
  methods := #[{ name := "arraycopy", desc := "(Ljava/lang/Object;ILjava/lang/Object;II)V", sig := { parameters := [.object "java/lang/Object", .int, .object "java/lang/Object", .int, .int], returnType := none }, accessFlags := 0x109, code := none }] }
def start1.c13 : Class := { su_own "java/lang/StringLatin1" 0x30
    [(1, 9, "java/lang/String", "checkIndex", "(II)V", 8, 8),
     (1, 240, "java/lang/StringUTF16", "inflate", "([BI[BII)V", 9, 15)]
    [] (Lib.HandJ.method "charAt" "([BI)C" [.array .byte, .int] (some .char) 0x9 2 prog_17_method_2_code) with
  methods := #[Lib.HandJ.method "charAt" "([BI)C" [.array .byte, .int] (some .char) 0x9 2 prog_17_method_2_code,
    Lib.HandJ.method "canEncode" "(C)Z" [.char] (some .boolean) 0x9 1 prog_17_method_3_code,
    Lib.HandJ.method "equals" "([B[B)Z" [.array .byte, .array .byte] (some .boolean) 0x9 3 prog_17_method_13_code,
    Lib.HandJ.method "inflate" "([BI[BII)V" [.array .byte, .int, .array .byte, .int, .int] none 0x9 5 prog_17_method_50_code] }
def start1.c14 : Class := { su_own "jdk/internal/util/Preconditions" 0x21
    []
    [] (Lib.HandJ.method "checkIndex" "(IILjava/util/function/BiFunction;)I" [.int, .int, .object "java/util/function/BiFunction"] (some .int) 0x9 3 prog_23_method_11_code) with
  methods := #[Lib.HandJ.method "checkIndex" "(IILjava/util/function/BiFunction;)I" [.int, .int, .object "java/util/function/BiFunction"] (some .int) 0x9 3 prog_23_method_11_code,
    Lib.HandJ.method "checkFromToIndex" "(IIILjava/util/function/BiFunction;)I" [.int, .int, .int, .object "java/util/function/BiFunction"] (some .int) 0x9 4 prog_23_method_12_code,
    Lib.HandJ.method "checkFromIndexSize" "(IIILjava/util/function/BiFunction;)I" [.int, .int, .int, .object "java/util/function/BiFunction"] (some .int) 0x9 4 prog_23_method_13_code],
  fields := (Lib.HandW.fieldsFrom [] 0).toArray ++ #[{ name := "SIOOBE_FORMATTER", type := .object "java/util/function/BiFunction", accessFlags := 0x19, slot := 0, constantValue := 0 }, { name := "AIOOBE_FORMATTER", type := .object "java/util/function/BiFunction", accessFlags := 0x19, slot := 1, constantValue := 0 }, { name := "IOOBE_FORMATTER", type := .object "java/util/function/BiFunction", accessFlags := 0x19, slot := 2, constantValue := 0 }],
  staticTypes := #[.object "java/util/function/BiFunction", .object "java/util/function/BiFunction", .object "java/util/function/BiFunction"],
  statics := some 5 }
def start1.c15 : Class := { su_own "java/lang/Character" 0x31
    [(5, 75, "", "", "", 55296, 0),
     (5, 76, "", "", "", 56320, 0),
     (5, 77, "", "", "", 57344, 0)]
    [("value", .char, 0x12)] (Lib.HandJ.method "isHighSurrogate" "(C)Z" [.char] (some .boolean) 0x9 1 prog_6_method_14_code) with
  methods := #[Lib.HandJ.method "isHighSurrogate" "(C)Z" [.char] (some .boolean) 0x9 1 prog_6_method_14_code,
    Lib.HandJ.method "isLowSurrogate" "(C)Z" [.char] (some .boolean) 0x9 1 prog_6_method_15_code,
    Lib.HandJ.method "isSurrogate" "(C)Z" [.char] (some .boolean) 0x9 1 prog_6_method_16_code] }
def start1.c16 : Class := { su_own "java/lang/Integer" 0x31
    [(0, 83, "java/lang/Integer", "DigitOnes", "[B", 16, 6),
     (0, 87, "java/lang/Integer", "DigitTens", "[B", 16, 5)]
    [("value", .int, 0x12)] (Lib.HandJ.method "getChars" "(II[B)I" [.int, .int, .array .byte] (some .int) 0x8 7 prog_11_method_12_code) with
  methods := #[Lib.HandJ.method "getChars" "(II[B)I" [.int, .int, .array .byte] (some .int) 0x8 7 prog_11_method_12_code,
    Lib.HandJ.method "stringSize" "(I)I" [.int] (some .int) 0x8 4 prog_11_method_13_code,
    Lib.HandJ.method "compare" "(II)I" [.int, .int] (some .int) 0x9 2 prog_11_method_40_code],
  fields := (Lib.HandW.fieldsFrom [("value", .int, 0x12)] 0).toArray ++ #[{ name := "MIN_VALUE", type := .int, accessFlags := 0x19, slot := 0, constantValue := 0 }, { name := "MAX_VALUE", type := .int, accessFlags := 0x19, slot := 1, constantValue := 0 }, { name := "TYPE", type := .object "java/lang/Class", accessFlags := 0x19, slot := 2, constantValue := 0 }, { name := "digits", type := .array .char, accessFlags := 0x18, slot := 3, constantValue := 0 }, { name := "DigitTens", type := .array .byte, accessFlags := 0x18, slot := 4, constantValue := 0 }, { name := "DigitOnes", type := .array .byte, accessFlags := 0x18, slot := 5, constantValue := 0 }, { name := "SIZE", type := .int, accessFlags := 0x19, slot := 6, constantValue := 0 }, { name := "BYTES", type := .int, accessFlags := 0x19, slot := 7, constantValue := 0 }, { name := "serialVersionUID", type := .long, accessFlags := 0x1a, slot := 8, constantValue := 0 }],
  staticTypes := #[.int, .int, .object "java/lang/Class", .array .char, .array .byte, .array .byte, .int, .int, .long],
  statics := some 6 }
def start1.c17 : Class := { su_own "java/lang/Long" 0x31
    [(4, 53, "", "", "", 10, 0),
     (4, 129, "", "", "", 18446744071562067968, 0),
     (4, 131, "", "", "", 100, 0),
     (0, 133, "java/lang/Integer", "DigitOnes", "[B", 16, 6),
     (0, 137, "java/lang/Integer", "DigitTens", "[B", 16, 5),
     (4, 140, "", "", "", 18446744073709551606, 0)]
    [("value", .long, 0x12)] (Lib.HandJ.method "getChars" "(JI[B)I" [.long, .int, .array .byte] (some .int) 0x8 11 prog_12_method_14_code) with
  methods := #[Lib.HandJ.method "getChars" "(JI[B)I" [.long, .int, .array .byte] (some .int) 0x8 11 prog_12_method_14_code,
    Lib.HandJ.method "stringSize" "(J)I" [.long] (some .int) 0x8 6 prog_12_method_15_code,
    Lib.HandJ.method "compare" "(JJ)I" [.long, .long] (some .int) 0x9 4 prog_12_method_42_code] }
def start1.c18 : Class := { su_own "java/lang/Cloneable" 0x601
    []
    [] mLaw with
  methods := #[] }
def start1.c19 : Class := { su_own "java/lang/Exception" 0x21
    [(1, 7, "java/lang/Throwable", "<init>", "(Ljava/lang/String;)V", 5, 1)]
    [] ({ name := "<init>", desc := "()V", sig := { parameters := [], returnType := none }, accessFlags := 0x1, code := none }) with
  methods := #[{ name := "<init>", desc := "()V", sig := { parameters := [], returnType := none }, accessFlags := 0x1, code := none },
    Lib.HandJ.method "<init>" "(Ljava/lang/String;)V" [.object "java/lang/String"] none 0x1 2 prog_8_method_2_code],
  super := some 5,
  instanceTypes := #[.object "java/lang/Object", .object "java/lang/String", .object "java/lang/Throwable", .array (.object "java/lang/StackTraceElement"), .int, .object "java/util/List"],
  fields := (Lib.HandW.fieldsFrom [] 6).toArray }
def start1.c20 : Class := { su_own "java/lang/StringBuilder" 0x31
    [(1, 1, "java/lang/AbstractStringBuilder", "<init>", "(I)V", 7, 0),
     (2, 18, "java/lang/String", "", "", 8, 0),
     (1, 29, "java/lang/AbstractStringBuilder", "append", "(Ljava/lang/String;)Ljava/lang/AbstractStringBuilder;", 7, 5),
     (1, 50, "java/lang/AbstractStringBuilder", "append", "(C)Ljava/lang/AbstractStringBuilder;", 7, 7),
     (1, 53, "java/lang/AbstractStringBuilder", "append", "(I)Ljava/lang/AbstractStringBuilder;", 7, 8),
     (1, 56, "java/lang/AbstractStringBuilder", "append", "(J)Ljava/lang/AbstractStringBuilder;", 7, 9),
     (1, 127, "java/lang/AbstractStringBuilder", "reverse", "()Ljava/lang/AbstractStringBuilder;", 7, 10),
     (1, 137, "java/lang/String", "<init>", "(Ljava/lang/StringBuilder;)V", 8, 0),
     (1, 343, "java/lang/AbstractStringBuilder", "length", "()I", 7, 1)]
    [] (Lib.HandJ.method "<init>" "()V" [] none 0x1 1 prog_16_method_1_code) with
  methods := #[Lib.HandJ.method "<init>" "()V" [] none 0x1 1 prog_16_method_1_code,
    Lib.HandJ.method "append" "(Ljava/lang/String;)Ljava/lang/StringBuilder;" [.object "java/lang/String"] (some (.object "java/lang/StringBuilder")) 0x1 2 prog_16_method_7_code,
    Lib.HandJ.method "append" "(C)Ljava/lang/StringBuilder;" [.char] (some (.object "java/lang/StringBuilder")) 0x1 2 prog_16_method_14_code,
    Lib.HandJ.method "append" "(I)Ljava/lang/StringBuilder;" [.int] (some (.object "java/lang/StringBuilder")) 0x1 2 prog_16_method_15_code,
    Lib.HandJ.method "append" "(J)Ljava/lang/StringBuilder;" [.long] (some (.object "java/lang/StringBuilder")) 0x1 3 prog_16_method_16_code,
    Lib.HandJ.method "reverse" "()Ljava/lang/StringBuilder;" [] (some (.object "java/lang/StringBuilder")) 0x1 1 prog_16_method_39_code,
    Lib.HandJ.method "toString" "()Ljava/lang/String;" [] (some (.object "java/lang/String")) 0x1 1 prog_16_method_42_code,
    Lib.HandJ.method "length" "()I" [] (some .int) 0x1041 1 prog_16_method_93_code],
  super := some 7,
  instanceTypes := #[.array .byte, .byte, .boolean, .int],
  fields := (Lib.HandW.fieldsFrom [] 4).toArray }
def start1.c21 : Class := { su_own "java/lang/RuntimeException" 0x21
    [(1, 7, "java/lang/Exception", "<init>", "(Ljava/lang/String;)V", 19, 1)]
    [] ({ name := "<init>", desc := "()V", sig := { parameters := [], returnType := none }, accessFlags := 0x1, code := none }) with
  methods := #[{ name := "<init>", desc := "()V", sig := { parameters := [], returnType := none }, accessFlags := 0x1, code := none },
    Lib.HandJ.method "<init>" "(Ljava/lang/String;)V" [.object "java/lang/String"] none 0x1 2 prog_14_method_2_code],
  super := some 19,
  instanceTypes := #[.object "java/lang/Object", .object "java/lang/String", .object "java/lang/Throwable", .array (.object "java/lang/StackTraceElement"), .int, .object "java/util/List"],
  fields := (Lib.HandW.fieldsFrom [] 6).toArray }
def start1.c22 : Class := { su_own "java/lang/IndexOutOfBoundsException" 0x21
    [(1, 7, "java/lang/RuntimeException", "<init>", "(Ljava/lang/String;)V", 21, 1)]
    [] (Lib.HandJ.method "<init>" "(Ljava/lang/String;)V" [.object "java/lang/String"] none 0x1 2 prog_10_method_2_code) with
  methods := #[Lib.HandJ.method "<init>" "(Ljava/lang/String;)V" [.object "java/lang/String"] none 0x1 2 prog_10_method_2_code],
  super := some 21,
  instanceTypes := #[.object "java/lang/Object", .object "java/lang/String", .object "java/lang/Throwable", .array (.object "java/lang/StackTraceElement"), .int, .object "java/util/List"],
  fields := (Lib.HandW.fieldsFrom [] 6).toArray }
def start1.c23 : Class := { su_own "java/lang/IllegalArgumentException" 0x21
    [(1, 7, "java/lang/RuntimeException", "<init>", "(Ljava/lang/String;)V", 21, 1)]
    [] (Lib.HandJ.method "<init>" "(Ljava/lang/String;)V" [.object "java/lang/String"] none 0x1 2 prog_9_method_2_code) with
  methods := #[Lib.HandJ.method "<init>" "(Ljava/lang/String;)V" [.object "java/lang/String"] none 0x1 2 prog_9_method_2_code],
  super := some 21,
  instanceTypes := #[.object "java/lang/Object", .object "java/lang/String", .object "java/lang/Throwable", .array (.object "java/lang/StackTraceElement"), .int, .object "java/util/List"],
  fields := (Lib.HandW.fieldsFrom [] 6).toArray }
def start1.cPrim (name : String) (ch : Char) : Class := { Lib.HandJ.cls name #[] #[] 0x411 #[] #[] #[] with kind := .primitive ch, cf := none }
def start1.cArr (name : String) (prim : Nat) (t : FieldType) : Class := { Lib.HandJ.cls name #[] #[] 0x411 #[] #[] #[] with kind := .array prim t, super := some 1, cf := none }
def start1.args0 : Array Value := #[.ref 0]
def start1.cells0 : Array Value := #[.int (-49), .int (-12), .int 25, .int 62, .int 99, .int 136, .int 173, .int (-41), .int (-4), .int 33, .int 70, .int 107, .int 144, .int 181, .int (-33), .int 4, .int 41, .int 78, .int 115, .int 152, .int 189, .int (-25), .int 12, .int 49, .int 86, .int 123, .int 160, .int (-54), .int (-17), .int 20, .int 57, .int 94, .int 131, .int 168, .int (-46), .int (-9), .int 28, .int 65, .int 102, .int 139, .int 176, .int (-38), .int (-1), .int 36, .int 73, .int 110, .int 147, .int 184, .int (-30), .int 7, .int 44, .int 81, .int 118, .int 155, .int (-59), .int (-22), .int 15, .int 52, .int 89, .int 126, .int 163, .int (-51), .int (-14), .int 23, .int 60, .int 97, .int 134, .int 171, .int (-43), .int (-6), .int 31, .int 68, .int 105, .int 142, .int 179, .int (-35), .int 2, .int 39, .int 76, .int 113, .int 150, .int 187, .int (-27), .int 10, .int 47, .int 84, .int 121, .int 158, .int (-56), .int (-19), .int 18, .int 55, .int 92, .int 129, .int 166, .int (-48), .int (-11), .int 26, .int 63, .int 100]
def start1.aboutOf (script : Array Value) : State where
  vm := { classes := #[c0, cObjectC, c2, c3, c4, c5, c6, c7, c8, c9, c10, c11, c12, c13, c14, c15, c16, c17, c18, c19, c20, c21, c22, c23, cPrim "int" 'I', { cArr "[I" 24 .int with interfaces := #[18] }, cPrim "long" 'J', { cArr "[J" 26 .long with interfaces := #[18] }, cPrim "byte" 'B', { cArr "[B" 28 .byte with interfaces := #[18] }] }
  heap := #[{ cls := 25, slots := script, vm := .none }, { cls := 2, slots := #[.int 0, .int 0, .int 0, .int 0, .int 0, .int 0, .int 0, .int 0, .int 0, .int 0, .long 0, .long 0, .ref 10, .ref 9, .ref 13, .ref 12, .ref 11], vm := .statics 2 }, { cls := 5, slots := #[.long 0, .null, .null, .null, .null, .null, .null, .null, .int 0], vm := .statics 5 }, { cls := 8, slots := #[.long 0, .int (1), .null, .int 0, .null, .int 0, .int 0], vm := .statics 8 }, { cls := 9, slots := #[.int (0), .int (8), .int 0, .int (1)], vm := .statics 9 }, { cls := 14, slots := #[.null, .null, .null], vm := .statics 14 }, { cls := 16, slots := #[.int 0, .int 0, .null, .null, .ref 8, .ref 7, .int 0, .int 0, .long 0], vm := .statics 16 }, { cls := 29, slots := #[.int (48), .int (49), .int (50), .int (51), .int (52), .int (53), .int (54), .int (55), .int (56), .int (57), .int (48), .int (49), .int (50), .int (51), .int (52), .int (53), .int (54), .int (55), .int (56), .int (57), .int (48), .int (49), .int (50), .int (51), .int (52), .int (53), .int (54), .int (55), .int (56), .int (57), .int (48), .int (49), .int (50), .int (51), .int (52), .int (53), .int (54), .int (55), .int (56), .int (57), .int (48), .int (49), .int (50), .int (51), .int (52), .int (53), .int (54), .int (55), .int (56), .int (57), .int (48), .int (49), .int (50), .int (51), .int (52), .int (53), .int (54), .int (55), .int (56), .int (57), .int (48), .int (49), .int (50), .int (51), .int (52), .int (53), .int (54), .int (55), .int (56), .int (57), .int (48), .int (49), .int (50), .int (51), .int (52), .int (53), .int (54), .int (55), .int (56), .int (57), .int (48), .int (49), .int (50), .int (51), .int (52), .int (53), .int (54), .int (55), .int (56), .int (57), .int (48), .int (49), .int (50), .int (51), .int (52), .int (53), .int (54), .int (55), .int (56), .int (57)], vm := .none }, { cls := 29, slots := #[.int (48), .int (48), .int (48), .int (48), .int (48), .int (48), .int (48), .int (48), .int (48), .int (48), .int (49), .int (49), .int (49), .int (49), .int (49), .int (49), .int (49), .int (49), .int (49), .int (49), .int (50), .int (50), .int (50), .int (50), .int (50), .int (50), .int (50), .int (50), .int (50), .int (50), .int (51), .int (51), .int (51), .int (51), .int (51), .int (51), .int (51), .int (51), .int (51), .int (51), .int (52), .int (52), .int (52), .int (52), .int (52), .int (52), .int (52), .int (52), .int (52), .int (52), .int (53), .int (53), .int (53), .int (53), .int (53), .int (53), .int (53), .int (53), .int (53), .int (53), .int (54), .int (54), .int (54), .int (54), .int (54), .int (54), .int (54), .int (54), .int (54), .int (54), .int (55), .int (55), .int (55), .int (55), .int (55), .int (55), .int (55), .int (55), .int (55), .int (55), .int (56), .int (56), .int (56), .int (56), .int (56), .int (56), .int (56), .int (56), .int (56), .int (56), .int (57), .int (57), .int (57), .int (57), .int (57), .int (57), .int (57), .int (57), .int (57), .int (57)], vm := .none }, { cls := 25, slots := #[.int (24), .int (60), .int (60), .int (1000000000)], vm := .none }, { cls := 27, slots := #[.long (1), .long (1000), .long (1000000), .long (1000000000), .long (60000000000), .long (3600000000000), .long (43200000000000), .long (86400000000000)], vm := .none }, { cls := 25, slots := #[.int (1), .int (59), .int (100000007)], vm := .none }, { cls := 27, slots := #[.long (0), .long (43200000000000), .long (86399999999999)], vm := .none }, { cls := 27, slots := #[.long (3600000000000), .long (60000000000), .long (1000000000), .long (1)], vm := .none }, { cls := 8, slots := #[.ref 15, .int 0, .int 0, .int 0], vm := .none }, { cls := 29, slots := #[.int 32, .int 62, .int 32], vm := .none }, { cls := 8, slots := #[.ref 17, .int 0, .int 0, .int 0], vm := .none }, { cls := 29, slots := #[.int 110, .int 111, .int 32, .int 115, .int 117, .int 99, .int 104, .int 32, .int 99, .int 108, .int 111, .int 99, .int 107], vm := .none }, { cls := 8, slots := #[.ref 19, .int 0, .int 0, .int 0], vm := .none }, { cls := 29, slots := #[.int 110, .int 111, .int 32, .int 115, .int 117, .int 99, .int 104, .int 32, .int 112, .int 97, .int 114, .int 116], vm := .none }, { cls := 8, slots := #[.ref 21, .int 0, .int 0, .int 0], vm := .none }, { cls := 29, slots := #[.int 116, .int 104, .int 105, .int 115, .int 32, .int 112, .int 97, .int 114, .int 116, .int 32, .int 99, .int 97, .int 110, .int 39, .int 116, .int 32, .int 98, .int 101, .int 32, .int 116, .int 104, .int 97, .int 116], vm := .none }, { cls := 8, slots := #[.ref 23, .int 0, .int 0, .int 0], vm := .none }, { cls := 29, slots := #[.int 115, .int 101, .int 99, .int 111, .int 110, .int 100, .int 32, .int 105, .int 115, .int 32, .int 110, .int 111, .int 116, .int 32, .int 48, .int 32, .int 116, .int 111, .int 32, .int 56, .int 54, .int 51, .int 57, .int 57], vm := .none }, { cls := 8, slots := #[.ref 25, .int 0, .int 0, .int 0], vm := .none }, { cls := 29, slots := #[.int 119, .int 104, .int 105, .int 99, .int 104, .int 32, .int 105, .int 115, .int 32, .int 110, .int 111, .int 116, .int 32, .int 48, .int 32, .int 116, .int 111, .int 32, .int 50], vm := .none }, { cls := 8, slots := #[.ref 27, .int 0, .int 0, .int 0], vm := .none }, { cls := 29, slots := #[.int 117, .int 110, .int 105, .int 116, .int 32, .int 105, .int 115, .int 32, .int 110, .int 111, .int 116, .int 32, .int 48, .int 32, .int 111, .int 114, .int 32, .int 51, .int 32, .int 116, .int 111, .int 32, .int 53], vm := .none }, { cls := 8, slots := #[.ref 29, .int 0, .int 0, .int 0], vm := .none }, { cls := 29, slots := #[.int 116, .int 105, .int 109, .int 101, .int 115, .int 32, .int 105, .int 115, .int 32, .int 110, .int 111, .int 116, .int 32, .int 48, .int 32, .int 116, .int 111, .int 32, .int 52, .int 48], vm := .none }, { cls := 8, slots := #[.ref 31, .int 0, .int 0, .int 0], vm := .none }, { cls := 29, slots := #[.int 110, .int 111, .int 32, .int 115, .int 117, .int 99, .int 104, .int 32, .int 117, .int 110, .int 105, .int 116], vm := .none }, { cls := 8, slots := #[.ref 33, .int 0, .int 0, .int 0], vm := .none }, { cls := 29, slots := #[.int 119, .int 104, .int 97, .int 116, .int 32, .int 105, .int 115, .int 32, .int 110, .int 111, .int 116, .int 32, .int 48, .int 32, .int 116, .int 111, .int 32, .int 52], vm := .none }, { cls := 8, slots := #[.ref 35, .int 0, .int 0, .int 0], vm := .none }, { cls := 29, slots := #[.int 119, .int 104, .int 97, .int 116, .int 32, .int 105, .int 115, .int 32, .int 110, .int 111, .int 116, .int 32, .int 48, .int 32, .int 111, .int 114, .int 32, .int 49], vm := .none }, { cls := 8, slots := #[.ref 37, .int 0, .int 0, .int 0], vm := .none }, { cls := 29, slots := #[], vm := .none }, { cls := 8, slots := #[.ref 39, .int 0, .int 0, .int 0], vm := .none }, { cls := 29, slots := #[.int 58], vm := .none }, { cls := 8, slots := #[.ref 41, .int 0, .int 0, .int 0], vm := .none }, { cls := 29, slots := #[.int 46], vm := .none }, { cls := 8, slots := #[.ref 43, .int 0, .int 0, .int 0], vm := .none }, { cls := 29, slots := #[.int 32], vm := .none }]
  slotsUsed := script.size + 519
  threads := #[{ frames := .invoking ⟨0, 0⟩ args0 :: Lib.HandBits.below0 }]
def start1.about : State := aboutOf cells0
def start1.p0 : Program := .bare "" "" ""
set_option maxRecDepth 16384 in
theorem dg_none : start1.about.vm.findClass "[Ljava/lang/StackTraceElement;" = none := by decide +kernel
set_option maxRecDepth 16384 in
theorem dg_arrB : start1.about.vm.findClass "[B" ≠ none := by decide +kernel
set_option maxRecDepth 16384 in
theorem dg_274 : (Jvm.Cond.not (Jvm.Cond.castable "[Ljava/lang/StackTraceElement;" "java/lang/String")).before start1.args0 start1.about = false := by decide +kernel
set_option maxRecDepth 16384 in
theorem dg_273 : (Jvm.Cond.not (Jvm.Cond.castable "[B" "java/lang/String")).before start1.args0 start1.about = true := by decide +kernel
set_option maxRecDepth 16384 in
theorem dg_all : (Jvm.Cond.and given_1 narrow_1).before start1.args0 start1.about = false := by decide +kernel
end

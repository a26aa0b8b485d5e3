/-! ## Math.floorDiv of longs, Math.floorMod of ints: no plain name, so a contract of the machine's own kind, at given numbers -/
def fd_i (x y : Int64) : Int64 := if x ^^^ y < 0 ∧ ¬ x / y * y = x then x / y - 1 else x / y
def fm_i (x y : Int32) : Int32 := if x ^^^ y < 0 ∧ ¬ x - x / y * y = 0 then x - x / y * y + y else x - x / y * y
theorem fd_row0 : (NativeRow.find? natives yJ9_floorDiv_f86c9.cls yJ9_floorDiv_f86c9.name yJ9_floorDiv_f86c9.desc).isNone = true := by decide +kernel
theorem fd_row (p : Program) : NativeRow.find? p.tables.natives yJ9_floorDiv_f86c9.cls yJ9_floorDiv_f86c9.name yJ9_floorDiv_f86c9.desc = none := by
  cases p <;> exact Option.isNone_iff_eq_none.mp fd_row0
theorem fm_row0 : (NativeRow.find? natives yJ9_floorMod_7cf53.cls yJ9_floorMod_7cf53.name yJ9_floorMod_7cf53.desc).isNone = true := by decide +kernel
theorem fm_row (p : Program) : NativeRow.find? p.tables.natives yJ9_floorMod_7cf53.cls yJ9_floorMod_7cf53.name yJ9_floorMod_7cf53.desc = none := by
  cases p <;> exact Option.isNone_iff_eq_none.mp fm_row0
def fd_sp (x y : Int64) : Spec := { pre := .and (.code yJ9_floorDiv_f86c9 cJ9_floorDiv_f86c9 6 (some .long)) (.and (.count 2) (.and (.eq (.arg 0) (.long x)) (.eq (.arg 1) (.long y)))), post := .and .returned (.eq .result (.long (fd_i x y))), changes := some [] }
def fm_sp (x y : Int32) : Spec := { pre := .and (.code yJ9_floorMod_7cf53 cJ9_floorMod_7cf53 3 (some .int)) (.and (.count 2) (.and (.eq (.arg 0) (.int x)) (.eq (.arg 1) (.int y)))), post := .and .returned (.eq .result (.int (fm_i x y))), changes := some [] }
theorem fd_args {args : Array Value} {s : State} {x y : Int64} (h0 : (Cond.count 2).before args s = true) (h1 : (Cond.eq (.arg 0) (.long x)).before args s = true) (h2 : (Cond.eq (.arg 1) (.long y)).before args s = true) : args = #[.long x, .long y] := by
  obtain ⟨l⟩ := args
  simp only [Cond.before, Cond.holds, Cond.value, Term.eval, List.size_toArray, beq_iff_eq, Option.some.injEq] at h0 h1 h2
  match l, h0 with
  | [a, b], _ =>
    cases a <;> simp at h1
    cases b <;> simp at h2
    subst h1; subst h2
    rfl
theorem fm_args {args : Array Value} {s : State} {x y : Int32} (h0 : (Cond.count 2).before args s = true) (h1 : (Cond.eq (.arg 0) (.int x)).before args s = true) (h2 : (Cond.eq (.arg 1) (.int y)).before args s = true) : args = #[.int x, .int y] := by
  obtain ⟨l⟩ := args
  simp only [Cond.before, Cond.holds, Cond.value, Term.eval, List.size_toArray, beq_iff_eq, Option.some.injEq] at h0 h1 h2
  match l, h0 with
  | [a, b], _ =>
    cases a <;> simp at h1
    cases b <;> simp at h2
    subst h1; subst h2
    rfl
set_option maxHeartbeats 2000000 in
theorem fd_ml (l : Launch) {x y : Int64} (hy : ¬ y = 0) : MeetsLoose l yJ9_floorDiv_f86c9 (fd_sp x y) := by
  refine MeetsLoose.of_body_ov (code := cJ9_floorDiv_f86c9) (maxLocals := 6) (ret := some .long) fd_row ?_ ?_
  · intro args s h
    simp only [fd_sp, Cond.before_and, Bool.and_eq_true] at h
    exact h.1
  · intro p e s m args below meth c s₁ B
    have hpre := B.pre
    simp only [fd_sp, Cond.before_and, Bool.and_eq_true] at hpre
    obtain rfl := fd_args hpre.2.1 hpre.2.2.1 hpre.2.2.2
    have hloc : argsToLocals #[.long x, .long y] 6 = #[.val (.long x), .second, .val (.long y), .second, .unset, .unset] := rfl
    obtain ⟨fs, hfs⟩ := handOver_isSome (s := s₁) (some (.long (fd_i x y))) B.hears₁
    refine ⟨s₁.setFrames fs, .returned (some (.long (fd_i x y))), ?_, B.here.running, B.ended hfs (by intro h; cases h), by simp [fd_sp, Cond.after, Cond.holds, Cond.value, Term.eval], State.sameBut_nil.mpr (by rw [State.frames_setFrames _ B.cur₁, B.back])⟩
    unfold entryFrame; rw [hloc]
    refine Steps.instrAtOv (c := _) (by simpa using B.here) ?_
    simp [jvm, wpRun, exec, B.here.top, B.exec, B.bytes, dJ9_floorDiv_f86c9_0]
    refine Steps.instrAtOv (c := _) (by simpa using B.here) ?_
    simp [jvm, wpRun, exec, B.here.top, B.exec, B.bytes, dJ9_floorDiv_f86c9_1]
    refine Steps.instrAtOv (c := _) (by simpa using B.here) ?_
    simp [jvm, wpRun, exec, B.here.top, B.exec, B.bytes, dJ9_floorDiv_f86c9_2, hy]
    show Steps p.tables e below (s₁.setTop { method := m, pc := 3, locals := #[.val (.long x), .second, .val (.long y), .second, .unset, .unset], stack := [.long (x / y)], locked := none }) _
    refine Steps.instrAtOv (c := _) (by simpa using B.here) ?_
    simp [jvm, wpRun, exec, B.here.top, B.exec, B.bytes, dJ9_floorDiv_f86c9_3, show storeLocals #[.val (.long x), .second, .val (.long y), .second, .unset, .unset] 4 (.long (x / y)) = some #[.val (.long x), .second, .val (.long y), .second, .val (.long (x / y)), .second] from rfl]
    show Steps p.tables e below (s₁.setTop { method := m, pc := 5, locals := #[.val (.long x), .second, .val (.long y), .second, .val (.long (x / y)), .second], stack := [], locked := none }) _
    refine Steps.instrAtOv (c := _) (by simpa using B.here) ?_
    simp [jvm, wpRun, exec, B.here.top, B.exec, B.bytes, dJ9_floorDiv_f86c9_5]
    refine Steps.instrAtOv (c := _) (by simpa using B.here) ?_
    simp [jvm, wpRun, exec, B.here.top, B.exec, B.bytes, dJ9_floorDiv_f86c9_6]
    refine Steps.instrAtOv (c := _) (by simpa using B.here) ?_
    simp [jvm, wpRun, exec, B.here.top, B.exec, B.bytes, dJ9_floorDiv_f86c9_7]
    refine Steps.instrAtOv (c := _) (by simpa using B.here) ?_
    simp [jvm, wpRun, exec, B.here.top, B.exec, B.bytes, dJ9_floorDiv_f86c9_8]
    by_cases h1 : x ^^^ y < 0
    · have n1 : ¬ 0 ≤ x ^^^ y := Int64.not_le.mpr h1
      sorry
    · have e : fd_i x y = x / y := if_neg (fun z => h1 z.1)
      sorry


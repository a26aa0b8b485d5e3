/-! ## Math.floorDiv of longs, Math.floorMod of ints: no plain name, so a contract of the machine's own kind, at given numbers -/
def fd_i (x y : Int64) : Int64 := if x ^^^ y < 0 ∧ ¬ x / y * y = x then x / y - 1 else x / y
def fm_i (x y : Int32) : Int32 := if x ^^^ y < 0 ∧ ¬ x - x / y * y = 0 then x - x / y * y + y else x - x / y * y
theorem l_tri (a b : Int64) : a < b ∨ a = b ∨ b < a := by
  rw [Int64.lt_iff_toInt_lt, Int64.lt_iff_toInt_lt, ← Int64.toInt_inj]
  omega
theorem fd_row0 : (NativeRow.find? natives yJ9_floorDiv_f86c9.cls yJ9_floorDiv_f86c9.name yJ9_floorDiv_f86c9.desc).isNone = true := by decide +kernel
theorem fd_row (p : Program) : NativeRow.find? p.tables.natives yJ9_floorDiv_f86c9.cls yJ9_floorDiv_f86c9.name yJ9_floorDiv_f86c9.desc = none := by
  cases p <;> exact Option.isNone_iff_eq_none.mp fd_row0
theorem fm_row0 : (NativeRow.find? natives yJ9_floorMod_7cf53.cls yJ9_floorMod_7cf53.name yJ9_floorMod_7cf53.desc).isNone = true := by decide +kernel
theorem fm_row (p : Program) : NativeRow.find? p.tables.natives yJ9_floorMod_7cf53.cls yJ9_floorMod_7cf53.name yJ9_floorMod_7cf53.desc = none := by
  cases p <;> exact Option.isNone_iff_eq_none.mp fm_row0
def fd_sp (x y : Int64) : Spec := { pre := .and (.code yJ9_floorDiv_f86c9 cJ9_floorDiv_f86c9 6 (some .long)) (.and (.count 2) (.and (.eq (.arg 0) (.long x)) (.eq (.arg 1) (.long y)))), post := .and .returned (.eq .result (.long (fd_i x y))), changes := some [] }
def fm_sp (x y : Int32) : Spec := { pre := .and (.code yJ9_floorMod_7cf53 cJ9_floorMod_7cf53 3 (some .int)) (.and (.count 2) (.and (.eq (.arg 0) (.int x)) (.eq (.arg 1) (.int y)))), post := .and .returned (.eq .result (.int (fm_i x y))), changes := some [] }
theorem fd_args {args : Array Value} {s : State} {x y : Int64} (h0 : (Cond.count 2).before args s = true) (h1 : (Cond.eq (.arg 0) (.long x)).before args s = true) (h2 : (Cond.eq (.arg 1) (.long y)).before args s = true) : args = #[.long x, .long y] := by
  obtain ⟨l⟩ := args
  simp only [Cond.before, Cond.holds, Cond.value, Term.eval, List.size_toArray, beq_iff_eq, Option.some.injEq] at h0 h1 h2
  match l, h0 with
  | [a, b], _ =>
    cases a <;> simp at h1
    cases b <;> simp at h2
    subst h1; subst h2
    rfl
theorem fm_args {args : Array Value} {s : State} {x y : Int32} (h0 : (Cond.count 2).before args s = true) (h1 : (Cond.eq (.arg 0) (.int x)).before args s = true) (h2 : (Cond.eq (.arg 1) (.int y)).before args s = true) : args = #[.int x, .int y] := by
  obtain ⟨l⟩ := args
  simp only [Cond.before, Cond.holds, Cond.value, Term.eval, List.size_toArray, beq_iff_eq, Option.some.injEq] at h0 h1 h2
  match l, h0 with
  | [a, b], _ =>
    cases a <;> simp at h1
    cases b <;> simp at h2
    subst h1; subst h2
    rfl
set_option maxHeartbeats 2000000 in
theorem fd_ml (l : Launch) {x y : Int64} (hy : ¬ y = 0) : MeetsLoose l yJ9_floorDiv_f86c9 (fd_sp x y) := by
  refine MeetsLoose.of_body_ov (code := cJ9_floorDiv_f86c9) (maxLocals := 6) (ret := some .long) fd_row ?_ ?_
  · intro args s h
    simp only [fd_sp, Cond.before_and, Bool.and_eq_true] at h
    exact h.1
  · intro p e s m args below meth c s₁ B
    have hpre := B.pre
    simp only [fd_sp, Cond.before_and, Bool.and_eq_true] at hpre
    obtain rfl := fd_args hpre.2.1 hpre.2.2.1 hpre.2.2.2
    have hloc : argsToLocals #[.long x, .long y] 6 = #[.val (.long x), .second, .val (.long y), .second, .unset, .unset] := rfl
    obtain ⟨fs, hfs⟩ := handOver_isSome (s := s₁) (some (.long (fd_i x y))) B.hears₁
    refine ⟨s₁.setFrames fs, .returned (some (.long (fd_i x y))), ?_, B.here.running, B.ended hfs (by intro h; cases h), by simp [fd_sp, Cond.after, Cond.holds, Cond.value, Term.eval], State.sameBut_nil.mpr (by rw [State.frames_setFrames _ B.cur₁, B.back])⟩
    unfold entryFrame; rw [hloc]
    refine Steps.instrAtOv (c := _) (by simpa using B.here) ?_
    simp [jvm, wpRun, exec, B.here.top, B.exec, B.bytes, dJ9_floorDiv_f86c9_0]
    refine Steps.instrAtOv (c := _) (by simpa using B.here) ?_
    simp [jvm, wpRun, exec, B.here.top, B.exec, B.bytes, dJ9_floorDiv_f86c9_1]
    refine Steps.instrAtOv (c := _) (by simpa using B.here) ?_
    simp [jvm, wpRun, exec, B.here.top, B.exec, B.bytes, dJ9_floorDiv_f86c9_2, hy]
    show Steps p.tables e below (s₁.setTop { method := m, pc := 3, locals := #[.val (.long x), .second, .val (.long y), .second, .unset, .unset], stack := [.long (x / y)], locked := none }) _
    refine Steps.instrAtOv (c := _) (by simpa using B.here) ?_
    simp [jvm, wpRun, exec, B.here.top, B.exec, B.bytes, dJ9_floorDiv_f86c9_3, show storeLocals #[.val (.long x), .second, .val (.long y), .second, .unset, .unset] 4 (.long (x / y)) = some #[.val (.long x), .second, .val (.long y), .second, .val (.long (x / y)), .second] from rfl]
    show Steps p.tables e below (s₁.setTop { method := m, pc := 5, locals := #[.val (.long x), .second, .val (.long y), .second, .val (.long (x / y)), .second], stack := [], locked := none }) _
    refine Steps.instrAtOv (c := _) (by simpa using B.here) ?_
    simp [jvm, wpRun, exec, B.here.top, B.exec, B.bytes, dJ9_floorDiv_f86c9_5]
    refine Steps.instrAtOv (c := _) (by simpa using B.here) ?_
    simp [jvm, wpRun, exec, B.here.top, B.exec, B.bytes, dJ9_floorDiv_f86c9_6]
    refine Steps.instrAtOv (c := _) (by simpa using B.here) ?_
    simp [jvm, wpRun, exec, B.here.top, B.exec, B.bytes, dJ9_floorDiv_f86c9_7]
    show Steps p.tables e below (s₁.setTop { method := m, pc := 8, locals := #[.val (.long x), .second, .val (.long y), .second, .val (.long (x / y)), .second], stack := [.long (x ^^^ y)], locked := none }) _
    generalize hX : x ^^^ y = X
    refine Steps.instrAtOv (c := _) (by simpa using B.here) ?_
    simp [jvm, wpRun, exec, B.here.top, B.exec, B.bytes, dJ9_floorDiv_f86c9_8]
    rcases l_tri 0 X with h1 | h1 | h1
    · have h12 : ¬ X = 0 := fun z => absurd h1 (by rw [z]; exact Int64.lt_irrefl)
      have ev : fd_i x y = x / y := by
        unfold fd_i
        rw [hX]
        exact if_neg (fun z => absurd (Int64.lt_trans z.1 h1) Int64.lt_irrefl)
      rw [ev] at hfs
      refine Steps.instrAtOv (c := _) (by simpa using B.here) ?_
      simp [jvm, wpRun, exec, B.here.top, B.exec, B.bytes, dJ9_floorDiv_f86c9_9, h1, h12]
      refine Steps.instrAtOv (c := _) (by simpa using B.here) ?_
      simp [jvm, wpRun, exec, B.here.top, B.exec, B.bytes, dJ9_floorDiv_f86c9_10, ifCond.holds]
      show Steps p.tables e below (s₁.setTop { method := m, pc := 27, locals := #[.val (.long x), .second, .val (.long y), .second, .val (.long (x / y)), .second], stack := [], locked := none }) _
      refine Steps.instrAtOv (c := _) (by simpa using B.here) ?_
      simp [jvm, wpRun, exec, B.here.top, B.exec, B.bytes, dJ9_floorDiv_f86c9_27]
      refine Steps.instrAtOv (c := _) (by simpa using B.here) ?_
      simp [jvm, wpRun, exec, B.here.top, B.exec, B.bytes, dJ9_floorDiv_f86c9_29, B.method₁, B.returns, narrow]
      intro acts
      rw [ret_to B.frames₁ B.method₁ B.notSynchronized rfl rfl hfs]
      exact Steps.refl _

    · have ev : fd_i x y = x / y := by
        unfold fd_i
        rw [hX]
        exact if_neg (fun z => absurd z.1 (by rw [← h1]; exact Int64.lt_irrefl))
      rw [ev] at hfs
      subst h1
      refine Steps.instrAtOv (c := _) (by simpa using B.here) ?_
      simp [jvm, wpRun, exec, B.here.top, B.exec, B.bytes, dJ9_floorDiv_f86c9_9]
      refine Steps.instrAtOv (c := _) (by simpa using B.here) ?_
      simp [jvm, wpRun, exec, B.here.top, B.exec, B.bytes, dJ9_floorDiv_f86c9_10, ifCond.holds]
      show Steps p.tables e below (s₁.setTop { method := m, pc := 27, locals := #[.val (.long x), .second, .val (.long y), .second, .val (.long (x / y)), .second], stack := [], locked := none }) _
      refine Steps.instrAtOv (c := _) (by simpa using B.here) ?_
      simp [jvm, wpRun, exec, B.here.top, B.exec, B.bytes, dJ9_floorDiv_f86c9_27]
      refine Steps.instrAtOv (c := _) (by simpa using B.here) ?_
      simp [jvm, wpRun, exec, B.here.top, B.exec, B.bytes, dJ9_floorDiv_f86c9_29, B.method₁, B.returns, narrow]
      intro acts
      rw [ret_to B.frames₁ B.method₁ B.notSynchronized rfl rfl hfs]
      exact Steps.refl _

    · have h12 : ¬ X = 0 := fun z => absurd h1 (by rw [z]; exact Int64.lt_irrefl)
      have h13 : ¬ 0 < X := fun z => absurd (Int64.lt_trans z h1) Int64.lt_irrefl
      refine Steps.instrAtOv (c := _) (by simpa using B.here) ?_
      simp [jvm, wpRun, exec, B.here.top, B.exec, B.bytes, dJ9_floorDiv_f86c9_9, h12, h13]
      refine Steps.instrAtOv (c := _) (by simpa using B.here) ?_
      simp [jvm, wpRun, exec, B.here.top, B.exec, B.bytes, dJ9_floorDiv_f86c9_10, ifCond.holds]
      show Steps p.tables e below (s₁.setTop { method := m, pc := 13, locals := #[.val (.long x), .second, .val (.long y), .second, .val (.long (x / y)), .second], stack := [], locked := none }) _
      refine Steps.instrAtOv (c := _) (by simpa using B.here) ?_
      simp [jvm, wpRun, exec, B.here.top, B.exec, B.bytes, dJ9_floorDiv_f86c9_13]
      refine Steps.instrAtOv (c := _) (by simpa using B.here) ?_
      simp [jvm, wpRun, exec, B.here.top, B.exec, B.bytes, dJ9_floorDiv_f86c9_15]
      refine Steps.instrAtOv (c := _) (by simpa using B.here) ?_
      simp [jvm, wpRun, exec, B.here.top, B.exec, B.bytes, dJ9_floorDiv_f86c9_16]
      show Steps p.tables e below (s₁.setTop { method := m, pc := 17, locals := #[.val (.long x), .second, .val (.long y), .second, .val (.long (x / y)), .second], stack := [.long (x / y * y)], locked := none }) _
      generalize hM : x / y * y = M
      refine Steps.instrAtOv (c := _) (by simpa using B.here) ?_
      simp [jvm, wpRun, exec, B.here.top, B.exec, B.bytes, dJ9_floorDiv_f86c9_17]
      rcases l_tri x M with h4 | h4 | h4
      · have h42 : ¬ M = x := fun z => absurd h4 (by rw [z]; exact Int64.lt_irrefl)
        have ev : fd_i x y = x / y - 1 := by
          unfold fd_i
          rw [hX, hM]
          exact if_pos ⟨h1, h42⟩
        rw [ev] at hfs
        refine Steps.instrAtOv (c := _) (by simpa using B.here) ?_
        simp [jvm, wpRun, exec, B.here.top, B.exec, B.bytes, dJ9_floorDiv_f86c9_18, h4, h42]
        refine Steps.instrAtOv (c := _) (by simpa using B.here) ?_
        simp [jvm, wpRun, exec, B.here.top, B.exec, B.bytes, dJ9_floorDiv_f86c9_19, ifCond.holds]
        show Steps p.tables e below (s₁.setTop { method := m, pc := 22, locals := #[.val (.long x), .second, .val (.long y), .second, .val (.long (x / y)), .second], stack := [], locked := none }) _
        refine Steps.instrAtOv (c := _) (by simpa using B.here) ?_
        simp [jvm, wpRun, exec, B.here.top, B.exec, B.bytes, dJ9_floorDiv_f86c9_22]
        refine Steps.instrAtOv (c := _) (by simpa using B.here) ?_
        simp [jvm, wpRun, exec, B.here.top, B.exec, B.bytes, dJ9_floorDiv_f86c9_24]
        refine Steps.instrAtOv (c := _) (by simpa using B.here) ?_
        simp [jvm, wpRun, exec, B.here.top, B.exec, B.bytes, dJ9_floorDiv_f86c9_25]
        refine Steps.instrAtOv (c := _) (by simpa using B.here) ?_
        simp [jvm, wpRun, exec, B.here.top, B.exec, B.bytes, dJ9_floorDiv_f86c9_26, B.method₁, B.returns, narrow]
        intro acts
        rw [ret_to B.frames₁ B.method₁ B.notSynchronized rfl rfl hfs]
        exact Steps.refl _

      · have ev : fd_i x y = x / y := by
          unfold fd_i
          rw [hX, hM]
          exact if_neg (fun z => z.2 h4.symm)
        rw [ev] at hfs
        subst h4
        refine Steps.instrAtOv (c := _) (by simpa using B.here) ?_
        simp [jvm, wpRun, exec, B.here.top, B.exec, B.bytes, dJ9_floorDiv_f86c9_18]
        refine Steps.instrAtOv (c := _) (by simpa using B.here) ?_
        simp [jvm, wpRun, exec, B.here.top, B.exec, B.bytes, dJ9_floorDiv_f86c9_19, ifCond.holds]
        show Steps p.tables e below (s₁.setTop { method := m, pc := 27, locals := #[.val (.long x), .second, .val (.long y), .second, .val (.long (x / y)), .second], stack := [], locked := none }) _
        refine Steps.instrAtOv (c := _) (by simpa using B.here) ?_
        simp [jvm, wpRun, exec, B.here.top, B.exec, B.bytes, dJ9_floorDiv_f86c9_27]
        refine Steps.instrAtOv (c := _) (by simpa using B.here) ?_
        simp [jvm, wpRun, exec, B.here.top, B.exec, B.bytes, dJ9_floorDiv_f86c9_29, B.method₁, B.returns, narrow]
        intro acts
        rw [ret_to B.frames₁ B.method₁ B.notSynchronized rfl rfl hfs]
        exact Steps.refl _

      · have h42 : ¬ M = x := fun z => absurd h4 (by rw [z]; exact Int64.lt_irrefl)
        have h43 : ¬ x < M := fun z => absurd (Int64.lt_trans z h4) Int64.lt_irrefl
        have ev : fd_i x y = x / y - 1 := by
          unfold fd_i
          rw [hX, hM]
          exact if_pos ⟨h1, h42⟩
        rw [ev] at hfs
        refine Steps.instrAtOv (c := _) (by simpa using B.here) ?_
        simp [jvm, wpRun, exec, B.here.top, B.exec, B.bytes, dJ9_floorDiv_f86c9_18, h42, h43]
        refine Steps.instrAtOv (c := _) (by simpa using B.here) ?_
        simp [jvm, wpRun, exec, B.here.top, B.exec, B.bytes, dJ9_floorDiv_f86c9_19, ifCond.holds]
        show Steps p.tables e below (s₁.setTop { method := m, pc := 22, locals := #[.val (.long x), .second, .val (.long y), .second, .val (.long (x / y)), .second], stack := [], locked := none }) _
        refine Steps.instrAtOv (c := _) (by simpa using B.here) ?_
        simp [jvm, wpRun, exec, B.here.top, B.exec, B.bytes, dJ9_floorDiv_f86c9_22]
        refine Steps.instrAtOv (c := _) (by simpa using B.here) ?_
        simp [jvm, wpRun, exec, B.here.top, B.exec, B.bytes, dJ9_floorDiv_f86c9_24]
        refine Steps.instrAtOv (c := _) (by simpa using B.here) ?_
        simp [jvm, wpRun, exec, B.here.top, B.exec, B.bytes, dJ9_floorDiv_f86c9_25]
        refine Steps.instrAtOv (c := _) (by simpa using B.here) ?_
        simp [jvm, wpRun, exec, B.here.top, B.exec, B.bytes, dJ9_floorDiv_f86c9_26, B.method₁, B.returns, narrow]
        intro acts
        rw [ret_to B.frames₁ B.method₁ B.notSynchronized rfl rfl hfs]
        exact Steps.refl _



set_option maxHeartbeats 2000000 in
theorem fm_ml (l : Launch) {x y : Int32} (hy : ¬ y = 0) : MeetsLoose l yJ9_floorMod_7cf53 (fm_sp x y) := by
  refine MeetsLoose.of_body_ov (code := cJ9_floorMod_7cf53) (maxLocals := 3) (ret := some .int) fm_row ?_ ?_
  · intro args s h
    simp only [fm_sp, Cond.before_and, Bool.and_eq_true] at h
    exact h.1
  · intro p e s m args below meth c s₁ B
    have hpre := B.pre
    simp only [fm_sp, Cond.before_and, Bool.and_eq_true] at hpre
    obtain rfl := fm_args hpre.2.1 hpre.2.2.1 hpre.2.2.2
    have hloc : argsToLocals #[.int x, .int y] 3 = #[.val (.int x), .val (.int y), .unset] := rfl
    obtain ⟨fs, hfs⟩ := handOver_isSome (s := s₁) (some (.int (fm_i x y))) B.hears₁
    refine ⟨s₁.setFrames fs, .returned (some (.int (fm_i x y))), ?_, B.here.running, B.ended hfs (by intro h; cases h), by simp [fm_sp, Cond.after, Cond.holds, Cond.value, Term.eval], State.sameBut_nil.mpr (by rw [State.frames_setFrames _ B.cur₁, B.back])⟩
    unfold entryFrame; rw [hloc]
    refine Steps.instrAtOv (c := _) (by simpa using B.here) ?_
    simp [jvm, wpRun, exec, B.here.top, B.exec, B.bytes, dJ9_floorMod_7cf53_0]
    refine Steps.instrAtOv (c := _) (by simpa using B.here) ?_
    simp [jvm, wpRun, exec, B.here.top, B.exec, B.bytes, dJ9_floorMod_7cf53_1]
    refine Steps.instrAtOv (c := _) (by simpa using B.here) ?_
    simp [jvm, wpRun, exec, B.here.top, B.exec, B.bytes, dJ9_floorMod_7cf53_2, hy]
    show Steps p.tables e below (s₁.setTop { method := m, pc := 3, locals := #[.val (.int x), .val (.int y), .unset], stack := [.int (x - x / y * y)], locked := none }) _
    have hv : fm_i x y = if x ^^^ y < 0 ∧ ¬ x - x / y * y = 0 then x - x / y * y + y else x - x / y * y := rfl
    generalize x - x / y * y = r at hv ⊢
    refine Steps.instrAtOv (c := _) (by simpa using B.here) ?_
    simp [jvm, wpRun, exec, B.here.top, B.exec, B.bytes, dJ9_floorMod_7cf53_3, show storeLocals #[.val (.int x), .val (.int y), .unset] 2 (.int r) = some #[.val (.int x), .val (.int y), .val (.int r)] from rfl]
    show Steps p.tables e below (s₁.setTop { method := m, pc := 4, locals := #[.val (.int x), .val (.int y), .val (.int r)], stack := [], locked := none }) _
    refine Steps.instrAtOv (c := _) (by simpa using B.here) ?_
    simp [jvm, wpRun, exec, B.here.top, B.exec, B.bytes, dJ9_floorMod_7cf53_4]
    refine Steps.instrAtOv (c := _) (by simpa using B.here) ?_
    simp [jvm, wpRun, exec, B.here.top, B.exec, B.bytes, dJ9_floorMod_7cf53_5]
    refine Steps.instrAtOv (c := _) (by simpa using B.here) ?_
    simp [jvm, wpRun, exec, B.here.top, B.exec, B.bytes, dJ9_floorMod_7cf53_6]
    show Steps p.tables e below (s₁.setTop { method := m, pc := 7, locals := #[.val (.int x), .val (.int y), .val (.int r)], stack := [.int (x ^^^ y)], locked := none }) _
    generalize x ^^^ y = X at hv ⊢
    by_cases h1 : 0 ≤ X
    · have n1 : ¬ X < 0 := Int32.not_lt.mpr h1
      rw [if_neg (fun z => n1 z.1)] at hv
      rw [hv] at hfs
      refine Steps.instrAtOv (c := _) (by simpa using B.here) ?_
      simp [jvm, wpRun, exec, B.here.top, B.exec, B.bytes, dJ9_floorMod_7cf53_7, ifCond.holds, h1]
      show Steps p.tables e below (s₁.setTop { method := m, pc := 18, locals := #[.val (.int x), .val (.int y), .val (.int r)], stack := [], locked := none }) _
      refine Steps.instrAtOv (c := _) (by simpa using B.here) ?_
      simp [jvm, wpRun, exec, B.here.top, B.exec, B.bytes, dJ9_floorMod_7cf53_18]
      refine Steps.instrAtOv (c := _) (by simpa using B.here) ?_
      simp [jvm, wpRun, exec, B.here.top, B.exec, B.bytes, dJ9_floorMod_7cf53_19, B.method₁, B.returns, narrow]
      intro acts
      rw [ret_to B.frames₁ B.method₁ B.notSynchronized rfl rfl hfs]
      exact Steps.refl _

    · have h2 : X < 0 := Int32.not_le.mp h1
      refine Steps.instrAtOv (c := _) (by simpa using B.here) ?_
      simp [jvm, wpRun, exec, B.here.top, B.exec, B.bytes, dJ9_floorMod_7cf53_7, ifCond.holds, h1]
      show Steps p.tables e below (s₁.setTop { method := m, pc := 10, locals := #[.val (.int x), .val (.int y), .val (.int r)], stack := [], locked := none }) _
      refine Steps.instrAtOv (c := _) (by simpa using B.here) ?_
      simp [jvm, wpRun, exec, B.here.top, B.exec, B.bytes, dJ9_floorMod_7cf53_10]
      by_cases h3 : r = 0
      · rw [if_neg (fun z => z.2 h3)] at hv
        rw [hv] at hfs
        subst h3
        refine Steps.instrAtOv (c := _) (by simpa using B.here) ?_
        simp [jvm, wpRun, exec, B.here.top, B.exec, B.bytes, dJ9_floorMod_7cf53_11, ifCond.holds]
        show Steps p.tables e below (s₁.setTop { method := m, pc := 18, locals := #[.val (.int x), .val (.int y), .val (.int 0)], stack := [], locked := none }) _
        refine Steps.instrAtOv (c := _) (by simpa using B.here) ?_
        simp [jvm, wpRun, exec, B.here.top, B.exec, B.bytes, dJ9_floorMod_7cf53_18]
        refine Steps.instrAtOv (c := _) (by simpa using B.here) ?_
        simp [jvm, wpRun, exec, B.here.top, B.exec, B.bytes, dJ9_floorMod_7cf53_19, B.method₁, B.returns, narrow]
        intro acts
        rw [ret_to B.frames₁ B.method₁ B.notSynchronized rfl rfl hfs]
        exact Steps.refl _

      · rw [if_pos ⟨h2, h3⟩] at hv
        rw [hv] at hfs
        refine Steps.instrAtOv (c := _) (by simpa using B.here) ?_
        simp [jvm, wpRun, exec, B.here.top, B.exec, B.bytes, dJ9_floorMod_7cf53_11, ifCond.holds, h3]
        show Steps p.tables e below (s₁.setTop { method := m, pc := 14, locals := #[.val (.int x), .val (.int y), .val (.int r)], stack := [], locked := none }) _
        refine Steps.instrAtOv (c := _) (by simpa using B.here) ?_
        simp [jvm, wpRun, exec, B.here.top, B.exec, B.bytes, dJ9_floorMod_7cf53_14]
        refine Steps.instrAtOv (c := _) (by simpa using B.here) ?_
        simp [jvm, wpRun, exec, B.here.top, B.exec, B.bytes, dJ9_floorMod_7cf53_15]
        refine Steps.instrAtOv (c := _) (by simpa using B.here) ?_
        simp [jvm, wpRun, exec, B.here.top, B.exec, B.bytes, dJ9_floorMod_7cf53_16]
        refine Steps.instrAtOv (c := _) (by simpa using B.here) ?_
        simp [jvm, wpRun, exec, B.here.top, B.exec, B.bytes, dJ9_floorMod_7cf53_17, B.method₁, B.returns, narrow]
        intro acts
        rw [ret_to B.frames₁ B.method₁ B.notSynchronized rfl rfl hfs]
        exact Steps.refl _



theorem x_fdiv_V {p : Program} {l : Launch} {e : Env} {R : Room} {s : State} {m : MethodId} {args : Array Value} {below : List Frame} {meth : Method} {c : Code} {T : State} {locs : List Loc} {cells slots : Nat} (X : Stand p l e R s m args below meth c T locs cells slots) (hexec : p.tables.exec = Jvm.exec) {own : String} {index : Nat} (hown : s.vm.findClass own = some m.cls)
    (hlink : (Cond.methodLink own index yJ9_floorDiv_f86c9).before args s = true) (hstat : (Cond.static yJ9_floorDiv_f86c9).before args s = true) (hinit : (Cond.initialized "java/lang/Math").before args s = true)
    (hcode : (Cond.code yJ9_floorDiv_f86c9 cJ9_floorDiv_f86c9 6 (some .long)).before args s = true) {x y : Int64} (hy : ¬ y = 0)
    {g : JFrame} (hg : g.method = m) (hsize : g.locals.size = c.maxLocals) {rest : List Value} (hstack : g.stack = .long y :: .long x :: rest) (hdg : decode c.code g.pc = .ok (.invokestatic index, 3))
    (hframes : 1 ≤ R.frames) (hlocals : 2 * g.monitorRoom + (rest.map fun v => v.category).sum + 17 ≤ R.locals) (hcells : cells ≤ R.cells) (hslots : slots ≤ R.slots) :
    ∃ vm', Stand p l e R s m args below meth c (T.setVm vm') locs cells slots ∧
      ∀ target, Steps p.tables e below ((T.setVm vm').setTop { g with pc := g.pc + 3, stack := .long (fd_i x y) :: rest }) target → Steps p.tables e below (T.setTop g) target := by
  obtain ⟨v, T', X', ⟨first, t, hpost⟩, hstep⟩ := X.staticByContractV hexec hown hlink hstat hinit hcode (by decide)
    (fd_ml l (x := x) hy)
    rfl rfl rfl rfl
    (fun args' first o s₂ h => by
      simp only [fd_sp, Cond.after_and, Bool.and_eq_true] at h
      cases o with
      | returned r => exact ⟨r, rfl⟩
      | threw y => simp [Cond.after, Cond.holds, Cond.value] at h)
    hg hsize (argsL := [.long x, .long y]) (rest := rest)
    (fun sig hs => by
      have h : parseMethodDescriptor "(JJ)J" = some { parameters := [.long, .long], returnType := some .long } := by decide +kernel
      rw [show yJ9_floorDiv_f86c9.desc = "(JJ)J" from rfl, h] at hs
      rw [← Option.some.inj hs]; rfl)
    hstack hdg
    (fun vm' hW => by
      simp only [fd_sp, Cond.before_and, Bool.and_eq_true]
      refine ⟨?_, by simp [Cond.before, Cond.holds, Cond.value], by simp [Cond.before, Cond.holds, Cond.value, Term.eval], by simp [Cond.before, Cond.holds, Cond.value, Term.eval]⟩
      have q := hcode
      rw [← Cond.code_setVm hW.alike] at q
      simp only [Cond.before, Cond.holds, Cond.value, State.methodNamed?, State.vm_setVm] at q ⊢
      exact q)
    (by show 0 + 1 ≤ R.frames; omega) (by show 2 * g.monitorRoom + (rest.map fun v => v.category).sum + (6 + 11) + 0 ≤ R.locals; omega) (by show cells + 0 ≤ R.cells; omega) (by show slots + 0 ≤ R.slots; omega)
  refine ⟨T', X', fun target h => hstep target ?_⟩
  obtain rfl : v = some (.long (fd_i x y)) := by
    simp only [fd_sp, Cond.after_and, Bool.and_eq_true] at hpost
    have h2 := hpost.2
    rcases v with _ | w
    · simp [Cond.after, Cond.holds, Cond.value, Term.eval] at h2
    · cases w <;> simp [Cond.after, Cond.holds, Cond.value, Term.eval] at h2
      simp [h2]
  exact h
theorem x_fdiv {p : Program} {l : Launch} {e : Env} {R : Room} {s : State} {m : MethodId} {args : Array Value} {below : List Frame} {meth : Method} {c : Code} {D : va_G} {dA : Nat → ClassId} {nL : Nat} {h0 : xH} {sz0 mc ms : Nat} {Post : Option Value → xH → Nat → Prop} {cells slots pc : Nat} {lv : List (Nat × Value)} {st : List Value} {h : xH} {sz : Nat} {cc : ByteArray} {Ts : List Cond} {own : String} {ret : Option FieldType} {i : Nat} (G : xG p s m args meth c cc nL Ts own ret D dA sz0) {x y : Int64} (hy : ¬ y = 0) (hl : Cond.methodLink own i yJ9_floorDiv_f86c9 ∈ Ts) (hst : Cond.static yJ9_floorDiv_f86c9 ∈ Ts) (hini : Cond.initialized "java/lang/Math" ∈ Ts) (hco : Cond.code yJ9_floorDiv_f86c9 cJ9_floorDiv_f86c9 6 (some .long) ∈ Ts) (hfr : 1 ≤ R.frames) (hlo : (st.map fun v => v.category).sum + 17 ≤ R.locals) (hcl : cells ≤ R.cells) (hsl : slots ≤ R.slots) (hd : decode cc pc = .ok (.invokestatic i, 3))
    (kk : xV p l e R s m args below meth c D dA nL h0 sz0 mc ms Post cells slots (pc + 3) lv (.long (fd_i x y) :: st) h sz) : xV p l e R s m args below meth c D dA nL h0 sz0 mc ms Post cells slots pc lv (.long y :: .long x :: st) h sz := fun H locs ls hR hz hS hv => by
  intro T hT X
  obtain ⟨vm', X', stp⟩ := x_fdiv_V X G.1 G.2.2.2.1 (G.2.2.2.2.1 _ hl) (G.2.2.2.2.1 _ hst) (G.2.2.2.2.1 _ hini) (G.2.2.2.2.1 _ hco) hy (g := F0 m pc ls (.long y :: .long x :: st)) rfl (hv.1.trans G.2.2.1.symm) (rest := st) rfl (by rw [G.2.1]; exact hd) hfr (by show 2 * 0 + _ + 17 ≤ _; omega) hcl hsl
  obtain ⟨t, a1, b1⟩ := kk H locs ls hR hz hS hv (T.setVm vm') hT X'
  exact ⟨t, stp t a1, b1⟩
theorem x_fmod_V {p : Program} {l : Launch} {e : Env} {R : Room} {s : State} {m : MethodId} {args : Array Value} {below : List Frame} {meth : Method} {c : Code} {T : State} {locs : List Loc} {cells slots : Nat} (X : Stand p l e R s m args below meth c T locs cells slots) (hexec : p.tables.exec = Jvm.exec) {own : String} {index : Nat} (hown : s.vm.findClass own = some m.cls)
    (hlink : (Cond.methodLink own index yJ9_floorMod_7cf53).before args s = true) (hstat : (Cond.static yJ9_floorMod_7cf53).before args s = true) (hinit : (Cond.initialized "java/lang/Math").before args s = true)
    (hcode : (Cond.code yJ9_floorMod_7cf53 cJ9_floorMod_7cf53 3 (some .int)).before args s = true) {x y : Int32} (hy : ¬ y = 0)
    {g : JFrame} (hg : g.method = m) (hsize : g.locals.size = c.maxLocals) {rest : List Value} (hstack : g.stack = .int y :: .int x :: rest) (hdg : decode c.code g.pc = .ok (.invokestatic index, 3))
    (hframes : 1 ≤ R.frames) (hlocals : 2 * g.monitorRoom + (rest.map fun v => v.category).sum + 14 ≤ R.locals) (hcells : cells ≤ R.cells) (hslots : slots ≤ R.slots) :
    ∃ vm', Stand p l e R s m args below meth c (T.setVm vm') locs cells slots ∧
      ∀ target, Steps p.tables e below ((T.setVm vm').setTop { g with pc := g.pc + 3, stack := .int (fm_i x y) :: rest }) target → Steps p.tables e below (T.setTop g) target := by
  obtain ⟨v, T', X', ⟨first, t, hpost⟩, hstep⟩ := X.staticByContractV hexec hown hlink hstat hinit hcode (by decide)
    (fm_ml l (x := x) hy)
    rfl rfl rfl rfl
    (fun args' first o s₂ h => by
      simp only [fm_sp, Cond.after_and, Bool.and_eq_true] at h
      cases o with
      | returned r => exact ⟨r, rfl⟩
      | threw y => simp [Cond.after, Cond.holds, Cond.value] at h)
    hg hsize (argsL := [.int x, .int y]) (rest := rest)
    (fun sig hs => by
      have h : parseMethodDescriptor "(II)I" = some { parameters := [.int, .int], returnType := some .int } := by decide +kernel
      rw [show yJ9_floorMod_7cf53.desc = "(II)I" from rfl, h] at hs
      rw [← Option.some.inj hs]; rfl)
    hstack hdg
    (fun vm' hW => by
      simp only [fm_sp, Cond.before_and, Bool.and_eq_true]
      refine ⟨?_, by simp [Cond.before, Cond.holds, Cond.value], by simp [Cond.before, Cond.holds, Cond.value, Term.eval], by simp [Cond.before, Cond.holds, Cond.value, Term.eval]⟩
      have q := hcode
      rw [← Cond.code_setVm hW.alike] at q
      simp only [Cond.before, Cond.holds, Cond.value, State.methodNamed?, State.vm_setVm] at q ⊢
      exact q)
    (by show 0 + 1 ≤ R.frames; omega) (by show 2 * g.monitorRoom + (rest.map fun v => v.category).sum + (3 + 11) + 0 ≤ R.locals; omega) (by show cells + 0 ≤ R.cells; omega) (by show slots + 0 ≤ R.slots; omega)
  refine ⟨T', X', fun target h => hstep target ?_⟩
  obtain rfl : v = some (.int (fm_i x y)) := by
    simp only [fm_sp, Cond.after_and, Bool.and_eq_true] at hpost
    have h2 := hpost.2
    rcases v with _ | w
    · simp [Cond.after, Cond.holds, Cond.value, Term.eval] at h2
    · cases w <;> simp [Cond.after, Cond.holds, Cond.value, Term.eval] at h2
      simp [h2]
  exact h
theorem x_fmod {p : Program} {l : Launch} {e : Env} {R : Room} {s : State} {m : MethodId} {args : Array Value} {below : List Frame} {meth : Method} {c : Code} {D : va_G} {dA : Nat → ClassId} {nL : Nat} {h0 : xH} {sz0 mc ms : Nat} {Post : Option Value → xH → Nat → Prop} {cells slots pc : Nat} {lv : List (Nat × Value)} {st : List Value} {h : xH} {sz : Nat} {cc : ByteArray} {Ts : List Cond} {own : String} {ret : Option FieldType} {i : Nat} (G : xG p s m args meth c cc nL Ts own ret D dA sz0) {x y : Int32} (hy : ¬ y = 0) (hl : Cond.methodLink own i yJ9_floorMod_7cf53 ∈ Ts) (hst : Cond.static yJ9_floorMod_7cf53 ∈ Ts) (hini : Cond.initialized "java/lang/Math" ∈ Ts) (hco : Cond.code yJ9_floorMod_7cf53 cJ9_floorMod_7cf53 3 (some .int) ∈ Ts) (hfr : 1 ≤ R.frames) (hlo : (st.map fun v => v.category).sum + 14 ≤ R.locals) (hcl : cells ≤ R.cells) (hsl : slots ≤ R.slots) (hd : decode cc pc = .ok (.invokestatic i, 3))
    (kk : xV p l e R s m args below meth c D dA nL h0 sz0 mc ms Post cells slots (pc + 3) lv (.int (fm_i x y) :: st) h sz) : xV p l e R s m args below meth c D dA nL h0 sz0 mc ms Post cells slots pc lv (.int y :: .int x :: st) h sz := fun H locs ls hR hz hS hv => by
  intro T hT X
  obtain ⟨vm', X', stp⟩ := x_fmod_V X G.1 G.2.2.2.1 (G.2.2.2.2.1 _ hl) (G.2.2.2.2.1 _ hst) (G.2.2.2.2.1 _ hini) (G.2.2.2.2.1 _ hco) hy (g := F0 m pc ls (.int y :: .int x :: st)) rfl (hv.1.trans G.2.2.1.symm) (rest := st) rfl (by rw [G.2.1]; exact hd) hfr (by show 2 * 0 + _ + 14 ≤ _; omega) hcl hsl
  obtain ⟨t, a1, b1⟩ := kk H locs ls hR hz hS hv (T.setVm vm') hT X'
  exact ⟨t, stp t a1, b1⟩

/-! What shows that the printed start can't meet the premise: a start in whose tables no class is called "[Ljava/lang/StackTraceElement;" fails narrow_1_2. -/
def cf_at : List Bool → Jvm.Cond → Jvm.Cond
  | true :: p, .and a b => cf_at p a
  | false :: p, .and a b => cf_at p b
  | _, c => c
theorem cf_at_holds {args : Array Value} {s : State} : ∀ (p : List Bool) (c : Jvm.Cond), c.before args s = true → (cf_at p c).before args s = true
  | [], c, h => h
  | b :: p, c, h => by
    cases c with
    | and x y =>
      rw [Cond.before_and, Bool.and_eq_true] at h
      cases b
      · exact cf_at_holds p y h.2
      · exact cf_at_holds p x h.1
    | _ => cases b <;> exact h
theorem cf_not_there {args : Array Value} {s : State} (hs : s.vm.findClass "[Ljava/lang/StackTraceElement;" = none) (target : String) :
    (Jvm.Cond.not (Jvm.Cond.castable "[Ljava/lang/StackTraceElement;" target)).before args s = false := by
  simp [Jvm.Cond.before, Jvm.Cond.holds, Jvm.Cond.value, hs]
theorem cf_no_narrow_2 (args : Array Value) (s : State) (hs : s.vm.findClass "[Ljava/lang/StackTraceElement;" = none) : narrow_1_2.before args s = false := by
  cases h : narrow_1_2.before args s with
  | false => rfl
  | true =>
    have e : cf_at [true, true, true, true, true, false, true, false, true] narrow_1_2 = Jvm.Cond.not (Jvm.Cond.castable "[Ljava/lang/StackTraceElement;" "java/lang/Integer") := rfl
    have h1 := cf_at_holds [true, true, true, true, true, false, true, false, true] narrow_1_2 h
    rw [e, cf_not_there hs] at h1
    exact absurd h1 (by decide)
theorem cf_no_narrow (args : Array Value) (s : State) (hs : s.vm.findClass "[Ljava/lang/StackTraceElement;" = none) : narrow_1.before args s = false := by
  have e : narrow_1 = Jvm.Cond.and (Jvm.Cond.and narrow_1_1 narrow_1_2) (Jvm.Cond.and narrow_1_3 narrow_1_4) := rfl
  rw [e, Cond.before_and, Cond.before_and, cf_no_narrow_2 args s hs, Bool.and_false, Bool.false_and]
theorem i_vc : Claimed_1_1 ∧ Claimed_1_2 := sorry

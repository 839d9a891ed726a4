theorem k2_selects_sub {C : String} {x y : MethodName} {s : State} {args : Array Value} (hc0 : x.cls = y.cls) (hy : y.cls ≠ "java/lang/invoke/MethodHandle" ∧ y.cls ≠ "java/lang/invoke/VarHandle") (hsel0 : (Cond.selects C x x).before args s = true) (hpriv : (Cond.privateMethod y).before args s = true) (hinst : (Cond.instanceMethod y).before args s = true) : (Cond.selects C y y).before args s = true := by
  obtain ⟨c, r0, m0, hc, -, hm0, -, k0, hk0, hi0⟩ := Cond.selects_spec hsel0
  obtain ⟨mk, methM, hnamed, hmethM, -, -⟩ := Cond.instanceMethod_spec hinst
  have hfound : s.methodFound? y.cls y.name y.desc = some mk := State.methodFound?_of_named hnamed hy
  have hcls : mk.cls = m0.cls := Option.some.inj ((findClass_of_methodNamed hnamed).symm.trans (by rw [← hc0]; exact findClass_of_methodNamed hm0))
  have hsel : selectMethod {} s.vm c mk = .method mk := selectMethod_private hmethM (Cond.privateMethod_at hpriv mk methM hnamed hmethM)
  simp only [Cond.before, Cond.holds, Cond.value, hc, hfound, hnamed, hsel, hcls, hk0]
  simp; exact hi0
def lw_sub : List Cond := [Jvm.Cond.selects "java/lang/StringBuilder" ⟨"java/lang/AbstractStringBuilder", "ensureCapacityInternal", "(I)V"⟩ ⟨"java/lang/AbstractStringBuilder", "ensureCapacityInternal", "(I)V"⟩, Jvm.Cond.selects "java/lang/StringBuilder" ⟨"java/lang/AbstractStringBuilder", "newCapacity", "(I)I"⟩ ⟨"java/lang/AbstractStringBuilder", "newCapacity", "(I)I"⟩, Jvm.Cond.selects "java/lang/StringBuilder" ⟨"java/lang/AbstractStringBuilder", "inflate", "()V"⟩ ⟨"java/lang/AbstractStringBuilder", "inflate", "()V"⟩]
def lw_tblX : List Cond := lw_tbl ++ lw_sub
theorem lw_tblX_hts {args : Array Value} {s : State} (h : ∀ w ∈ lw_tbl, w.before args s = true) : ∀ w ∈ lw_tblX, w.before args s = true := by
  intro w hw
  rcases List.mem_append.mp hw with h1 | h1
  · exact h w h1
  · have g : ∀ y : MethodName, y.cls = "java/lang/AbstractStringBuilder" → Cond.privateMethod y ∈ lw_tbl → Cond.instanceMethod y ∈ lw_tbl → (Cond.selects "java/lang/StringBuilder" y y).before args s = true := fun y hy q1 q2 =>
      k2_selects_sub (x := ⟨"java/lang/AbstractStringBuilder", "isLatin1", "()Z"⟩) hy.symm (by rw [hy]; decide) (h _ (List.mem_of_getElem? (i := 375) (by decide +kernel))) (h _ q1) (h _ q2)
    simp only [lw_sub, List.mem_cons, List.not_mem_nil, or_false] at h1
    rcases h1 with rfl | rfl | rfl
    · exact g _ rfl (List.mem_of_getElem? (i := 338) (by decide +kernel)) (List.mem_of_getElem? (i := 339) (by decide +kernel))
    · exact g _ rfl (List.mem_of_getElem? (i := 342) (by decide +kernel)) (List.mem_of_getElem? (i := 343) (by decide +kernel))
    · exact g _ rfl (List.mem_of_getElem? (i := 422) (by decide +kernel)) (List.mem_of_getElem? (i := 423) (by decide +kernel))

/-! the law: its loop -/
theorem MonoT_app {A B : ab_T} (hA : MonoT A) (hB : MonoT B) : MonoT (A ++ B) := fun p f h => by
  rcases List.mem_append.mp h with h | h
  · exact hA p f h
  · exact hB p f h
theorem Sound_app {l : Launch} {D : va_G} {cA : Nat → ClassId} {d nL : Nat} {y : MethodName} {cc : ByteArray} {ret : Option FieldType} {tab : List ExceptionTableEntry} {A B : ab_T} (hA : Sound l D cA d nL y cc ret tab A) (hB : Sound l D cA d nL y cc ret tab B) : Sound l D cA d nL y cc ret tab (A ++ B) := by
  intro p e R s m args below meth c loc0 m0 r Q E hQ h0 hrt hnm htab pc f h
  rcases List.mem_append.mp h with h | h
  · exact hA p e R s m args below meth c loc0 m0 r Q E hQ h0 hrt hnm htab pc f h
  · exact hB p e R s m args below meth c loc0 m0 r Q E hQ h0 hrt hnm htab pc f h

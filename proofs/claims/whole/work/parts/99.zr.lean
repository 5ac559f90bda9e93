/-! the law's whole table is sound -/
theorem snd_TLAW {l : Launch} {D : va_G} {cA : Nat → ClassId} (hst : l.stackTraces = false) : Sound l D cA 800 9 yL_law cL_law (some .boolean) [] TLAW := by
  unfold TLAW
  refine Sound_app (snd_L_law_p (d' := 799) (by omega) (hC_X6_init := C_X6_init hst (by omega)) (hC_X9_init := C_X9_init hst (by omega))) ?_
  refine Sound_app (snd_L_law_h) ?_
  refine Sound_app (snd_L_law_c0 (d' := 799) (by omega) (hC_L_person := C_L_person hst (by omega)) (hC_X9_person := C_X9_person hst (by omega)) (hC_X9_thrown := C_X9_thrown hst (by omega))) ?_
  refine Sound_app (snd_L_law_c1 (d' := 799) (by omega) (hC_L_give := C_L_give hst (by omega)) (hC_X9_give := C_X9_give hst (by omega)) (hC_X9_thrown := C_X9_thrown hst (by omega))) ?_
  refine Sound_app (snd_L_law_c2 (d' := 799) (by omega) (hC_L_revoke := C_L_revoke hst (by omega)) (hC_X9_revoke := C_X9_revoke hst (by omega)) (hC_X9_thrown := C_X9_thrown hst (by omega))) ?_
  refine Sound_app (snd_L_law_c3 (d' := 799) (by omega) (hC_L_die := C_L_die hst (by omega)) (hC_X9_die := C_X9_die hst (by omega)) (hC_X9_thrown := C_X9_thrown hst (by omega))) ?_
  refine Sound_app (snd_L_law_c4 (d' := 799) (by omega) (hC_L_adopt := C_L_adopt hst (by omega)) (hC_X9_adopt := C_X9_adopt hst (by omega)) (hC_X9_thrown := C_X9_thrown hst (by omega))) ?_
  refine Sound_app (snd_L_law_c5 (d' := 799) (by omega) (hC_L_heir := C_L_heir hst (by omega)) (hC_X9_heir := C_X9_heir hst (by omega)) (hC_X9_thrown := C_X9_thrown hst (by omega))) ?_
  refine Sound_app (snd_L_law_c6 (d' := 799) (by omega) (hC_L_part := C_L_part hst (by omega)) (hC_X9_part := C_X9_part hst (by omega)) (hC_X9_thrown := C_X9_thrown hst (by omega))) ?_
  refine Sound_app (snd_L_law_c7 (d' := 799) (by omega) (hC_L_pass := C_L_pass hst (by omega)) (hC_X9_pass := C_X9_pass hst (by omega)) (hC_X9_thrown := C_X9_thrown hst (by omega))) ?_
  refine Sound_app (snd_L_law_c8 (d' := 799) (by omega) (hC_L_secret := C_L_secret hst (by omega)) (hC_X9_secret := C_X9_secret hst (by omega)) (hC_X9_thrown := C_X9_thrown hst (by omega))) ?_
  refine Sound_app (snd_L_law_c9 (d' := 799) (by omega) (hC_L_read := C_L_read hst (by omega)) (hC_X9_read := C_X9_read hst (by omega)) (hC_X9_thrown := C_X9_thrown hst (by omega))) ?_
  refine Sound_app (snd_L_law_c10 (d' := 799) (by omega) (hC_L_copy := C_L_copy hst (by omega)) (hC_X9_copy := C_X9_copy hst (by omega)) (hC_X9_thrown := C_X9_thrown hst (by omega))) ?_
  refine Sound_app (snd_L_law_c11 (d' := 799) (by omega) (hC_L_rebuild := C_L_rebuild hst (by omega)) (hC_X9_rebuild := C_X9_rebuild hst (by omega)) (hC_X9_thrown := C_X9_thrown hst (by omega))) ?_
  refine Sound_app (snd_L_law_c12 (d' := 799) (by omega) (hC_L_utensil := C_L_utensil hst (by omega)) (hC_X9_utensil := C_X9_utensil hst (by omega)) (hC_X9_thrown := C_X9_thrown hst (by omega))) ?_
  refine Sound_app (snd_L_law_c13 (d' := 799) (by omega) (hC_L_lend := C_L_lend hst (by omega)) (hC_X9_lend := C_X9_lend hst (by omega)) (hC_X9_thrown := C_X9_thrown hst (by omega))) ?_
  refine Sound_app (snd_L_law_c14 (d' := 799) (by omega) (hC_L_mend := C_L_mend hst (by omega)) (hC_X9_mend := C_X9_mend hst (by omega)) (hC_X9_thrown := C_X9_thrown hst (by omega))) ?_
  refine Sound_app (snd_L_law_c15 (d' := 799) (by omega) (hC_L_quarrel := C_L_quarrel hst (by omega)) (hC_X9_quarrel := C_X9_quarrel hst (by omega)) (hC_X9_thrown := C_X9_thrown hst (by omega))) ?_
  refine Sound_app (snd_L_law_c16 (d' := 799) (by omega) (hC_L_hold := C_L_hold hst (by omega)) (hC_X9_hold := C_X9_hold hst (by omega)) (hC_X9_thrown := C_X9_thrown hst (by omega))) ?_
  refine Sound_app (snd_L_law_c17 (d' := 799) (by omega) (hC_L_ofPerson := C_L_ofPerson hst (by omega)) (hC_X9_ofPerson := C_X9_ofPerson hst (by omega)) (hC_X9_thrown := C_X9_thrown hst (by omega))) ?_
  refine Sound_app (snd_L_law_c18 (d' := 799) (by omega) (hC_L_giver := C_L_giver hst (by omega)) (hC_X9_giver := C_X9_giver hst (by omega)) (hC_X9_thrown := C_X9_thrown hst (by omega))) ?_
  refine Sound_app (snd_L_law_c19 (d' := 799) (by omega) (hC_L_ofHouse := C_L_ofHouse hst (by omega)) (hC_X9_ofHouse := C_X9_ofHouse hst (by omega)) (hC_X9_thrown := C_X9_thrown hst (by omega))) ?_
  refine Sound_app (snd_L_law_c20 (d' := 799) (by omega) (hC_L_ofSecret := C_L_ofSecret hst (by omega)) (hC_X9_ofSecret := C_X9_ofSecret hst (by omega)) (hC_X9_thrown := C_X9_thrown hst (by omega))) ?_
  refine Sound_app (snd_L_law_c21 (d' := 799) (by omega) (hC_L_ofUtensil := C_L_ofUtensil hst (by omega)) (hC_X9_ofUtensil := C_X9_ofUtensil hst (by omega)) (hC_X9_thrown := C_X9_thrown hst (by omega))) ?_
  refine Sound_app (snd_L_law_c22 (d' := 799) (by omega) (hC_L_many := C_L_many hst (by omega)) (hC_X9_many := C_X9_many hst (by omega)) (hC_X9_thrown := C_X9_thrown hst (by omega))) ?_
  refine Sound_app (snd_L_law_c23 (d' := 799) (by omega) (hC_L_meanStep := C_L_meanStep hst (by omega)) (hC_X9_meanStep := C_X9_meanStep hst (by omega)) (hC_X9_thrown := C_X9_thrown hst (by omega))) ?_
  refine Sound_app (snd_L_law_c24 (d' := 799) (by omega) (hC_L_plan := C_L_plan hst (by omega)) (hC_X9_plan := C_X9_plan hst (by omega)) (hC_X9_thrown := C_X9_thrown hst (by omega))) ?_
  refine Sound_app (snd_L_law_c25 (d' := 799) (by omega) (hC_L_wouldFall := C_L_wouldFall hst (by omega)) (hC_X9_wouldFall := C_X9_wouldFall hst (by omega)) (hC_X9_thrown := C_X9_thrown hst (by omega))) ?_
  refine Sound_app (snd_L_law_c26 (d' := 799) (by omega) (hC_L_wouldLose := C_L_wouldLose hst (by omega)) (hC_X9_wouldLose := C_X9_wouldLose hst (by omega)) (hC_X9_thrown := C_X9_thrown hst (by omega))) ?_
  refine Sound_app (snd_L_law_c27 (d' := 799) (by omega) (hC_X6_digest := C_X6_digest hst (by omega)) (hC_X9_digest := C_X9_digest hst (by omega))) ?_
  exact snd_L_law_t

/-! every semantic function is monotone in what comes after -/
theorem ite_mono {c : Prop} {hd : Decidable c} {A A' B B' : Prop} (h : @ite Prop c hd A B) (f : A → A') (g : B → B') : @ite Prop c hd A' B' := by
  by_cases hc : c
  · rw [if_pos hc] at h ⊢; exact f h
  · rw [if_neg hc] at h ⊢; exact g h
theorem mono_const {v : ab_V} {n : Nat} : Mono (s_const v n) := by
  intro K K' R hK ls st m h
  unfold s_const at h ⊢
  exact hK _ _ _ _ h
theorem mono_iload {i : Nat} {n : Nat} : Mono (s_iload i n) := by
  intro K K' R hK ls st m h
  unfold s_iload at h ⊢
  split at h
  · exact hK _ _ _ _ h
  · exact h.elim
theorem mono_lload {i : Nat} {n : Nat} : Mono (s_lload i n) := by
  intro K K' R hK ls st m h
  unfold s_lload at h ⊢
  split at h
  · exact hK _ _ _ _ h
  · exact h.elim
theorem mono_aload {i : Nat} {n : Nat} : Mono (s_aload i n) := by
  intro K K' R hK ls st m h
  unfold s_aload at h ⊢
  split at h
  · exact hK _ _ _ _ h
  · exact h.elim
theorem mono_istore {i : Nat} {n : Nat} : Mono (s_istore i n) := by
  intro K K' R hK ls st m h
  unfold s_istore at h ⊢
  split at h
  · exact ite_mono h (hK _ _ _ _) id
  · exact h.elim
theorem mono_lstore {i : Nat} {n : Nat} : Mono (s_lstore i n) := by
  intro K K' R hK ls st m h
  unfold s_lstore at h ⊢
  split at h
  · exact ite_mono h (hK _ _ _ _) id
  · exact h.elim
theorem mono_astore {i : Nat} {n : Nat} : Mono (s_astore i n) := by
  intro K K' R hK ls st m h
  unfold s_astore at h ⊢
  split at h
  · exact ite_mono h (hK _ _ _ _) id
  · exact ite_mono h (hK _ _ _ _) id
  · exact h.elim
theorem mono_iinc {i : Nat} {c : Int32} {n : Nat} : Mono (s_iinc i c n) := by
  intro K K' R hK ls st m h
  unfold s_iinc at h ⊢
  split at h
  · exact hK _ _ _ _ h
  · exact h.elim
theorem mono_bin {f : Int32 → Int32 → Int32} {n : Nat} : Mono (s_bin f n) := by
  intro K K' R hK ls st m h
  unfold s_bin at h ⊢
  split at h
  · exact hK _ _ _ _ h
  · exact h.elim
theorem mono_div {f : Int32 → Int32 → Int32} {n : Nat} : Mono (s_div f n) := by
  intro K K' R hK ls st m h
  unfold s_div at h ⊢
  split at h
  · exact ite_mono h id (hK _ _ _ _)
  · exact h.elim
theorem mono_binL {f : Int64 → Int64 → Int64} {n : Nat} : Mono (s_binL f n) := by
  intro K K' R hK ls st m h
  unfold s_binL at h ⊢
  split at h
  · exact hK _ _ _ _ h
  · exact h.elim
theorem mono_lcmp {n : Nat} : Mono (s_lcmp n) := by
  intro K K' R hK ls st m h
  unfold s_lcmp at h ⊢
  split at h
  · exact hK _ _ _ _ h
  · exact h.elim
theorem mono_i2l {n : Nat} : Mono (s_i2l n) := by
  intro K K' R hK ls st m h
  unfold s_i2l at h ⊢
  split at h
  · exact hK _ _ _ _ h
  · exact h.elim
theorem mono_goto {t : Nat} : Mono (s_goto t) := by
  intro K K' R hK ls st m h
  unfold s_goto at h ⊢
  exact hK _ _ _ _ h
theorem mono_ifeq {t : Nat} {n : Nat} : Mono (s_ifeq t n) := by
  intro K K' R hK ls st m h
  unfold s_ifeq at h ⊢
  split at h
  · exact ite_mono h (hK _ _ _ _) (hK _ _ _ _)
  · exact h.elim
theorem mono_iflt {t : Nat} {n : Nat} : Mono (s_iflt t n) := by
  intro K K' R hK ls st m h
  unfold s_iflt at h ⊢
  split at h
  · exact ite_mono h (hK _ _ _ _) (hK _ _ _ _)
  · exact h.elim
theorem mono_ifgt {t : Nat} {n : Nat} : Mono (s_ifgt t n) := by
  intro K K' R hK ls st m h
  unfold s_ifgt at h ⊢
  split at h
  · exact ite_mono h (hK _ _ _ _) (hK _ _ _ _)
  · exact h.elim
theorem mono_cmpeq {t : Nat} {n : Nat} : Mono (s_cmpeq t n) := by
  intro K K' R hK ls st m h
  unfold s_cmpeq at h ⊢
  split at h
  · exact ite_mono h (hK _ _ _ _) (hK _ _ _ _)
  · exact h.elim
theorem mono_cmplt {t : Nat} {n : Nat} : Mono (s_cmplt t n) := by
  intro K K' R hK ls st m h
  unfold s_cmplt at h ⊢
  split at h
  · exact ite_mono h (hK _ _ _ _) (hK _ _ _ _)
  · exact h.elim
theorem mono_cmpgt {t : Nat} {n : Nat} : Mono (s_cmpgt t n) := by
  intro K K' R hK ls st m h
  unfold s_cmpgt at h ⊢
  split at h
  · exact ite_mono h (hK _ _ _ _) (hK _ _ _ _)
  · exact h.elim
theorem mono_pop {n : Nat} : Mono (s_pop n) := by
  intro K K' R hK ls st m h
  unfold s_pop at h ⊢
  split at h
  · exact ite_mono h (hK _ _ _ _) id
  · exact h.elim
theorem mono_dup {n : Nat} : Mono (s_dup n) := by
  intro K K' R hK ls st m h
  unfold s_dup at h ⊢
  split at h
  · exact ite_mono h (hK _ _ _ _) id
  · exact h.elim
theorem mono_dup2 {n : Nat} : Mono (s_dup2 n) := by
  intro K K' R hK ls st m h
  unfold s_dup2 at h ⊢
  split at h
  · exact ite_mono h (hK _ _ _ _) id
  · exact h.elim
theorem mono_obj {n : Nat} : Mono (s_obj n) := by
  intro K K' R hK ls st m h
  unfold s_obj at h ⊢
  split at h
  · exact ite_mono h (hK _ _ _ _) id
  · exact h.elim
theorem mono_mmin {n : Nat} : Mono (s_mmin n) := by
  intro K K' R hK ls st m h
  unfold s_mmin at h ⊢
  split at h
  · exact ite_mono h (hK _ _ _ _) id
  · exact h.elim
theorem mono_mmax {n : Nat} : Mono (s_mmax n) := by
  intro K K' R hK ls st m h
  unfold s_mmax at h ⊢
  split at h
  · exact ite_mono h (hK _ _ _ _) id
  · exact h.elim
theorem mono_alen {n : Nat} : Mono (s_alen n) := by
  intro K K' R hK ls st m h
  unfold s_alen at h ⊢
  split at h
  · exact ite_mono h (hK _ _ _ _) id
  · exact h.elim
theorem mono_tab {lo : Int} {hi : Int} {tg : List Nat} {df : Nat} : Mono (s_tab lo hi tg df) := by
  intro K K' R hK ls st m h
  unfold s_tab at h ⊢
  split at h
  · refine ite_mono h (hK _ _ _ _) (fun h => ?_)
    split at h
    · exact hK _ _ _ _ h
    · exact h.elim
  · exact h.elim
theorem mono_getI {c : Nat} {k : Nat} {n : Nat} : Mono (s_getI c k n) := by
  intro K K' R hK ls st m h
  unfold s_getI at h ⊢
  split at h
  · exact ite_mono h (hK _ _ _ _) id
  · exact h.elim
theorem mono_getR {c : Nat} {k : Nat} {n : Nat} : Mono (s_getR c k n) := by
  intro K K' R hK ls st m h
  unfold s_getR at h ⊢
  split at h
  · exact ite_mono h (hK _ _ _ _) id
  · exact h.elim
theorem mono_putI {c : Nat} {k : Nat} {n : Nat} : Mono (s_putI c k n) := by
  intro K K' R hK ls st m h
  unfold s_putI at h ⊢
  split at h
  · exact ite_mono h (hK _ _ _ _) id
  · exact h.elim
theorem mono_putR {c : Nat} {k : Nat} {n : Nat} : Mono (s_putR c k n) := by
  intro K K' R hK ls st m h
  unfold s_putR at h ⊢
  split at h
  · exact ite_mono h (hK _ _ _ _) id
  · exact h.elim
theorem mono_ald {c : Nat} {n : Nat} : Mono (s_ald c n) := by
  intro K K' R hK ls st m h
  unfold s_ald at h ⊢
  split at h
  · exact ⟨h.1, h.2.1, hK _ _ _ _ h.2.2⟩
  · exact h.elim
theorem mono_ast {c : Nat} {n : Nat} : Mono (s_ast c n) := by
  intro K K' R hK ls st m h
  unfold s_ast at h ⊢
  split at h
  · exact ⟨h.1, h.2.1, hK _ _ _ _ h.2.2⟩
  · exact h.elim
theorem mono_aald {c : Nat} {n : Nat} : Mono (s_aald c n) := by
  intro K K' R hK ls st m h
  unfold s_aald at h ⊢
  split at h
  · exact ⟨h.1, h.2.1, hK _ _ _ _ h.2.2⟩
  · exact h.elim
theorem mono_zast {n : Nat} : Mono (s_zast n) := by
  intro K K' R hK ls st m h
  unfold s_zast at h ⊢
  split at h
  · exact ⟨h.1, h.2.1, hK _ _ _ _ h.2.2⟩
  · exact h.elim
theorem mono_new {s : Nat} {n : Nat} : Mono (s_new s n) := by
  intro K K' R hK ls st m h
  unfold s_new at h ⊢
  exact ite_mono h (hK _ _ _ _) id
theorem mono_newa {s : Nat} {n : Nat} : Mono (s_newa s n) := by
  intro K K' R hK ls st m h
  unfold s_newa at h ⊢
  split at h
  · exact ite_mono h (hK _ _ _ _) id
  · exact h.elim
theorem mono_multi {t : Nat} {s : Nat} {n : Nat} : Mono (s_multi t s n) := by
  intro K K' R hK ls st m h
  unfold s_multi at h ⊢
  split at h
  · exact ite_mono h (hK _ _ _ _) id
  · exact h.elim
theorem s_hd_mono {K K' : ab_K} {R : ab_R → Prop} (hK : ∀ p ls st m, K p ls st m → K' p ls st m) {ls : ab_L} {E : String} {m : ab_M} : ∀ hs : List (String × Nat), s_hd K R ls E m hs → s_hd K' R ls E m hs
  | [], h => h
  | x :: hs, h => by
    unfold s_hd at h ⊢
    exact ite_mono h (fun h a => hK _ _ _ _ (h a)) (s_hd_mono hK hs)
theorem mono_call {k : Nat} {sp : List ab_V → ab_M → ab_O} {a : Nat} {hs : List (String × Nat)} {n : Nat} : Mono (s_call k sp a hs n) := by
  intro K K' R hK ls st m h
  unfold s_call at h ⊢
  refine ⟨h.1, ?_⟩
  have h := h.2
  split at h
  · exact hK _ _ _ _ h
  · exact ⟨h.1, s_hd_mono hK _ h.2⟩
  · exact h.elim
theorem mono_throw {E : String} : Mono (s_throw E) := fun _ _ _ _ _ _ _ h => h
theorem mono_ret {t : Nat} : Mono (s_ret t) := fun _ _ _ _ _ _ _ h => h
theorem mono_retL : Mono s_retL := fun _ _ _ _ _ _ _ h => h
theorem mono_retV : Mono s_retV := fun _ _ _ _ _ _ _ h => h


section AMP
variable {l : Launch} {D : va_G} {ad : Nat → Nat} {b0 : Nat} {Hb : Heap} {I : Nat → am_I} {y : MethodName} {cc : ByteArray} {nL : Nat} {ret : Option FieldType} {pc nx : Nat}
theorem am_nlt {a b : Int32} (h : ¬ a < b) : b ≤ a := Int32.not_lt.mp h
theorem am_nle {a b : Int32} (h : ¬ a ≤ b) : b < a := Int32.not_le.mp h
theorem am_lt_nle {a b : Int32} (h : a < b) : ¬ b ≤ a := Int32.not_le.mpr h
theorem am_le_nlt {a b : Int32} (h : a ≤ b) : ¬ b < a := Int32.not_lt.mpr h
theorem ok_ifeq {off : Int} {t : Nat} (hd : decode cc pc = .ok (.ifCond .eq off, 3)) (ht : (pc : Int) + off = (t : Int)) (hn : pc + 3 = nx) : am_ok l D ad b0 Hb I y cc nL ret pc (o_ifeq t nx) := by
  subst hn
  refine am_mkS (fun L S h v => ?_) (fun L S h pc' L' S' h' e => ?_)
  · unfold o_ifeq am_nx; split <;> (try split) <;> simp
  · unfold o_ifeq am_nx at e
    split at e
    · split at e
      · rename_i hc
        cases e
        exact ⟨rfl, fun p e s m args below meth c R cx H locs cells slots ls Q hl _ kk => lv_if_eq cx.1 cx.2.1 hd ht (fun _ => kk ls hl) (fun h9 => absurd hc h9)⟩
      · rename_i hc
        cases e
        exact ⟨rfl, fun p e s m args below meth c R cx H locs cells slots ls Q hl _ kk => lv_if_eq cx.1 cx.2.1 hd ht (fun h9 => absurd h9 hc) (fun _ => kk ls hl)⟩
    · cases e
theorem ok_ifne {off : Int} {t : Nat} (hd : decode cc pc = .ok (.ifCond .ne off, 3)) (ht : (pc : Int) + off = (t : Int)) (hn : pc + 3 = nx) : am_ok l D ad b0 Hb I y cc nL ret pc (o_ifeq nx t) := by
  subst hn
  refine am_mkS (fun L S h v => ?_) (fun L S h pc' L' S' h' e => ?_)
  · unfold o_ifeq am_nx; split <;> (try split) <;> simp
  · unfold o_ifeq am_nx at e
    split at e
    · split at e
      · rename_i hc
        cases e
        exact ⟨rfl, fun p e s m args below meth c R cx H locs cells slots ls Q hl _ kk => lv_if_ne cx.1 cx.2.1 hd ht (fun h9 => absurd hc h9) (fun _ => kk ls hl)⟩
      · rename_i hc
        cases e
        exact ⟨rfl, fun p e s m args below meth c R cx H locs cells slots ls Q hl _ kk => lv_if_ne cx.1 cx.2.1 hd ht (fun _ => kk ls hl) (fun h9 => absurd h9 hc)⟩
    · cases e
theorem ok_iflt {off : Int} {t : Nat} (hd : decode cc pc = .ok (.ifCond .lt off, 3)) (ht : (pc : Int) + off = (t : Int)) (hn : pc + 3 = nx) : am_ok l D ad b0 Hb I y cc nL ret pc (o_iflt t nx) := by
  subst hn
  refine am_mkS (fun L S h v => ?_) (fun L S h pc' L' S' h' e => ?_)
  · unfold o_iflt am_nx; split <;> (try split) <;> simp
  · unfold o_iflt am_nx at e
    split at e
    · split at e
      · rename_i hc
        cases e
        exact ⟨rfl, fun p e s m args below meth c R cx H locs cells slots ls Q hl _ kk => lv_if_lt cx.1 cx.2.1 hd ht (fun _ => kk ls hl) (fun h9 => absurd hc h9)⟩
      · rename_i hc
        cases e
        exact ⟨rfl, fun p e s m args below meth c R cx H locs cells slots ls Q hl _ kk => lv_if_lt cx.1 cx.2.1 hd ht (fun h9 => absurd h9 hc) (fun _ => kk ls hl)⟩
    · cases e
theorem ok_ifge {off : Int} {t : Nat} (hd : decode cc pc = .ok (.ifCond .ge off, 3)) (ht : (pc : Int) + off = (t : Int)) (hn : pc + 3 = nx) : am_ok l D ad b0 Hb I y cc nL ret pc (o_iflt nx t) := by
  subst hn
  refine am_mkS (fun L S h v => ?_) (fun L S h pc' L' S' h' e => ?_)
  · unfold o_iflt am_nx; split <;> (try split) <;> simp
  · unfold o_iflt am_nx at e
    split at e
    · split at e
      · rename_i hc
        cases e
        exact ⟨rfl, fun p e s m args below meth c R cx H locs cells slots ls Q hl _ kk => lv_if_ge cx.1 cx.2.1 hd ht (fun h9 => absurd h9 (am_lt_nle hc)) (fun _ => kk ls hl)⟩
      · rename_i hc
        cases e
        exact ⟨rfl, fun p e s m args below meth c R cx H locs cells slots ls Q hl _ kk => lv_if_ge cx.1 cx.2.1 hd ht (fun _ => kk ls hl) (fun h9 => absurd (am_nlt hc) h9)⟩
    · cases e
theorem ok_ifgt {off : Int} {t : Nat} (hd : decode cc pc = .ok (.ifCond .gt off, 3)) (ht : (pc : Int) + off = (t : Int)) (hn : pc + 3 = nx) : am_ok l D ad b0 Hb I y cc nL ret pc (o_ifgt t nx) := by
  subst hn
  refine am_mkS (fun L S h v => ?_) (fun L S h pc' L' S' h' e => ?_)
  · unfold o_ifgt am_nx; split <;> (try split) <;> simp
  · unfold o_ifgt am_nx at e
    split at e
    · split at e
      · rename_i hc
        cases e
        exact ⟨rfl, fun p e s m args below meth c R cx H locs cells slots ls Q hl _ kk => lv_if_gt cx.1 cx.2.1 hd ht (fun _ => kk ls hl) (fun h9 => absurd hc h9)⟩
      · rename_i hc
        cases e
        exact ⟨rfl, fun p e s m args below meth c R cx H locs cells slots ls Q hl _ kk => lv_if_gt cx.1 cx.2.1 hd ht (fun h9 => absurd h9 hc) (fun _ => kk ls hl)⟩
    · cases e
theorem ok_ifle {off : Int} {t : Nat} (hd : decode cc pc = .ok (.ifCond .le off, 3)) (ht : (pc : Int) + off = (t : Int)) (hn : pc + 3 = nx) : am_ok l D ad b0 Hb I y cc nL ret pc (o_ifgt nx t) := by
  subst hn
  refine am_mkS (fun L S h v => ?_) (fun L S h pc' L' S' h' e => ?_)
  · unfold o_ifgt am_nx; split <;> (try split) <;> simp
  · unfold o_ifgt am_nx at e
    split at e
    · split at e
      · rename_i hc
        cases e
        exact ⟨rfl, fun p e s m args below meth c R cx H locs cells slots ls Q hl _ kk => lv_if_le cx.1 cx.2.1 hd ht (fun h9 => absurd h9 (am_lt_nle hc)) (fun _ => kk ls hl)⟩
      · rename_i hc
        cases e
        exact ⟨rfl, fun p e s m args below meth c R cx H locs cells slots ls Q hl _ kk => lv_if_le cx.1 cx.2.1 hd ht (fun _ => kk ls hl) (fun h9 => absurd (am_nlt hc) h9)⟩
    · cases e
theorem ok_ceq {off : Int} {t : Nat} (hd : decode cc pc = .ok (.if_icmp .eq off, 3)) (ht : (pc : Int) + off = (t : Int)) (hn : pc + 3 = nx) : am_ok l D ad b0 Hb I y cc nL ret pc (o_ceq t nx) := by
  subst hn
  refine am_mkS (fun L S h v => ?_) (fun L S h pc' L' S' h' e => ?_)
  · unfold o_ceq am_nx; split <;> (try split) <;> simp
  · unfold o_ceq am_nx at e
    split at e
    · split at e
      · rename_i hc
        cases e
        exact ⟨rfl, fun p e s m args below meth c R cx H locs cells slots ls Q hl _ kk => lv_icmp_eq cx.1 cx.2.1 hd ht (fun _ => kk ls hl) (fun h9 => absurd hc h9)⟩
      · rename_i hc
        cases e
        exact ⟨rfl, fun p e s m args below meth c R cx H locs cells slots ls Q hl _ kk => lv_icmp_eq cx.1 cx.2.1 hd ht (fun h9 => absurd h9 hc) (fun _ => kk ls hl)⟩
    · cases e
theorem ok_cne {off : Int} {t : Nat} (hd : decode cc pc = .ok (.if_icmp .ne off, 3)) (ht : (pc : Int) + off = (t : Int)) (hn : pc + 3 = nx) : am_ok l D ad b0 Hb I y cc nL ret pc (o_ceq nx t) := by
  subst hn
  refine am_mkS (fun L S h v => ?_) (fun L S h pc' L' S' h' e => ?_)
  · unfold o_ceq am_nx; split <;> (try split) <;> simp
  · unfold o_ceq am_nx at e
    split at e
    · split at e
      · rename_i hc
        cases e
        exact ⟨rfl, fun p e s m args below meth c R cx H locs cells slots ls Q hl _ kk => lv_icmp_ne cx.1 cx.2.1 hd ht (fun h9 => absurd hc h9) (fun _ => kk ls hl)⟩
      · rename_i hc
        cases e
        exact ⟨rfl, fun p e s m args below meth c R cx H locs cells slots ls Q hl _ kk => lv_icmp_ne cx.1 cx.2.1 hd ht (fun _ => kk ls hl) (fun h9 => absurd h9 hc)⟩
    · cases e
theorem ok_clt {off : Int} {t : Nat} (hd : decode cc pc = .ok (.if_icmp .lt off, 3)) (ht : (pc : Int) + off = (t : Int)) (hn : pc + 3 = nx) : am_ok l D ad b0 Hb I y cc nL ret pc (o_clt t nx) := by
  subst hn
  refine am_mkS (fun L S h v => ?_) (fun L S h pc' L' S' h' e => ?_)
  · unfold o_clt am_nx; split <;> (try split) <;> simp
  · unfold o_clt am_nx at e
    split at e
    · split at e
      · rename_i hc
        cases e
        exact ⟨rfl, fun p e s m args below meth c R cx H locs cells slots ls Q hl _ kk => lv_icmp_lt cx.1 cx.2.1 hd ht (fun _ => kk ls hl) (fun h9 => absurd hc h9)⟩
      · rename_i hc
        cases e
        exact ⟨rfl, fun p e s m args below meth c R cx H locs cells slots ls Q hl _ kk => lv_icmp_lt cx.1 cx.2.1 hd ht (fun h9 => absurd h9 hc) (fun _ => kk ls hl)⟩
    · cases e
theorem ok_cge {off : Int} {t : Nat} (hd : decode cc pc = .ok (.if_icmp .ge off, 3)) (ht : (pc : Int) + off = (t : Int)) (hn : pc + 3 = nx) : am_ok l D ad b0 Hb I y cc nL ret pc (o_clt nx t) := by
  subst hn
  refine am_mkS (fun L S h v => ?_) (fun L S h pc' L' S' h' e => ?_)
  · unfold o_clt am_nx; split <;> (try split) <;> simp
  · unfold o_clt am_nx at e
    split at e
    · split at e
      · rename_i hc
        cases e
        exact ⟨rfl, fun p e s m args below meth c R cx H locs cells slots ls Q hl _ kk => lv_icmp_ge cx.1 cx.2.1 hd ht (fun h9 => absurd h9 (am_lt_nle hc)) (fun _ => kk ls hl)⟩
      · rename_i hc
        cases e
        exact ⟨rfl, fun p e s m args below meth c R cx H locs cells slots ls Q hl _ kk => lv_icmp_ge cx.1 cx.2.1 hd ht (fun _ => kk ls hl) (fun h9 => absurd (am_nlt hc) h9)⟩
    · cases e
theorem ok_cgt {off : Int} {t : Nat} (hd : decode cc pc = .ok (.if_icmp .gt off, 3)) (ht : (pc : Int) + off = (t : Int)) (hn : pc + 3 = nx) : am_ok l D ad b0 Hb I y cc nL ret pc (o_cgt t nx) := by
  subst hn
  refine am_mkS (fun L S h v => ?_) (fun L S h pc' L' S' h' e => ?_)
  · unfold o_cgt am_nx; split <;> (try split) <;> simp
  · unfold o_cgt am_nx at e
    split at e
    · split at e
      · rename_i hc
        cases e
        exact ⟨rfl, fun p e s m args below meth c R cx H locs cells slots ls Q hl _ kk => lv_icmp_gt cx.1 cx.2.1 hd ht (fun _ => kk ls hl) (fun h9 => absurd hc h9)⟩
      · rename_i hc
        cases e
        exact ⟨rfl, fun p e s m args below meth c R cx H locs cells slots ls Q hl _ kk => lv_icmp_gt cx.1 cx.2.1 hd ht (fun h9 => absurd h9 hc) (fun _ => kk ls hl)⟩
    · cases e
theorem ok_cle {off : Int} {t : Nat} (hd : decode cc pc = .ok (.if_icmp .le off, 3)) (ht : (pc : Int) + off = (t : Int)) (hn : pc + 3 = nx) : am_ok l D ad b0 Hb I y cc nL ret pc (o_cgt nx t) := by
  subst hn
  refine am_mkS (fun L S h v => ?_) (fun L S h pc' L' S' h' e => ?_)
  · unfold o_cgt am_nx; split <;> (try split) <;> simp
  · unfold o_cgt am_nx at e
    split at e
    · split at e
      · rename_i hc
        cases e
        exact ⟨rfl, fun p e s m args below meth c R cx H locs cells slots ls Q hl _ kk => lv_icmp_le cx.1 cx.2.1 hd ht (fun h9 => absurd h9 (am_lt_nle hc)) (fun _ => kk ls hl)⟩
      · rename_i hc
        cases e
        exact ⟨rfl, fun p e s m args below meth c R cx H locs cells slots ls Q hl _ kk => lv_icmp_le cx.1 cx.2.1 hd ht (fun _ => kk ls hl) (fun h9 => absurd (am_nlt hc) h9)⟩
    · cases e
end AMP

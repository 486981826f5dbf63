/-! ===== the plain actions are the machine's ===== -/
theorem ab_n64_of {r : UInt64} (h : ab_n64 r = true) : vf_n64 r := by
  unfold ab_n64 at h
  unfold vf_n64
  exact of_decide_eq_true h
section AbAct
variable {M : ab_M} {pc : Nat}
theorem sn_iconst {n : Int} {v : Int32} (hd : decode M.2.1 pc = .ok (.iconst n, 1)) (hv : Int32.ofInt n = v) : ab_Ok1 M pc (ab_push (.int v) 1) := by
  intro ls st σ r h K p l e R s m args below meth c X hdp c0 s0 Q g k H locs ls' cells slots hR hS hl h1 h2 h3 h4
  cases h
  exact lv_iconst X.1 X.2.1 hd hv (k H locs ls' cells slots hR hS hl h1 h2 h3 h4)
theorem sn_bipush {n : Int} {v : Int32} (hd : decode M.2.1 pc = .ok (.bipush n, 2)) (hv : (Int8.ofInt n).toInt32 = v) : ab_Ok1 M pc (ab_push (.int v) 2) := by
  intro ls st σ r h K p l e R s m args below meth c X hdp c0 s0 Q g k H locs ls' cells slots hR hS hl h1 h2 h3 h4
  cases h
  exact lv_bipush X.1 X.2.1 hd hv (k H locs ls' cells slots hR hS hl h1 h2 h3 h4)
theorem sn_sipush {n : Int} {v : Int32} (hd : decode M.2.1 pc = .ok (.sipush n, 3)) (hv : (Int16.ofInt n).toInt32 = v) : ab_Ok1 M pc (ab_push (.int v) 3) := by
  intro ls st σ r h K p l e R s m args below meth c X hdp c0 s0 Q g k H locs ls' cells slots hR hS hl h1 h2 h3 h4
  cases h
  exact lv_sipush X.1 X.2.1 hd hv (k H locs ls' cells slots hR hS hl h1 h2 h3 h4)
theorem sn_lconst {n : Fin 2} {v : Int64} (hd : decode M.2.1 pc = .ok (.lconst n, 1)) (hv : Int64.ofNat (n : Nat) = v) : ab_Ok1 M pc (ab_push (.long v) 1) := by
  intro ls st σ r h K p l e R s m args below meth c X hdp c0 s0 Q g k H locs ls' cells slots hR hS hl h1 h2 h3 h4
  cases h
  exact lv_lconst X.1 X.2.1 hd hv (k H locs ls' cells slots hR hS hl h1 h2 h3 h4)
theorem sn_dconst0 (hd : decode M.2.1 pc = .ok (.dconst 0, 1)) : ab_Ok1 M pc (ab_push (.double FP.dconst0) 1) := by
  intro ls st σ r h K p l e R s m args below meth c X hdp c0 s0 Q g k H locs ls' cells slots hR hS hl h1 h2 h3 h4
  cases h
  exact lv_dconst0 X.1 X.2.1 hd (k H locs ls' cells slots hR hS hl h1 h2 h3 h4)
theorem sn_dconst1 (hd : decode M.2.1 pc = .ok (.dconst 1, 1)) : ab_Ok1 M pc (ab_push (.double FP.dconst1) 1) := by
  intro ls st σ r h K p l e R s m args below meth c X hdp c0 s0 Q g k H locs ls' cells slots hR hS hl h1 h2 h3 h4
  cases h
  exact lv_dconst1 X.1 X.2.1 hd (k H locs ls' cells slots hR hS hl h1 h2 h3 h4)
theorem sn_ldc {idx : Nat} {v : Int32} (hd : decode M.2.1 pc = .ok (.ldc idx, 2)) (hw : Cond.constant M.1.cls idx v ∈ ab_all) : ab_Ok1 M pc (ab_push (.int v) 2) := by
  intro ls st σ r h K p l e R s m args below meth c X hdp c0 s0 Q g k H locs ls' cells slots hR hS hl h1 h2 h3 h4
  cases h
  exact lv_ldc X.1 X.2.1 X.2.2.2.2.1 (X.2.2.2.2.2.1 _ hw) hd (k H locs ls' cells slots hR hS hl h1 h2 h3 h4)
theorem sn_ldc2 {idx : Nat} {v : Int64} (hd : decode M.2.1 pc = .ok (.ldc2_w idx, 3)) (hw : Cond.constantLong M.1.cls idx v ∈ ab_all) : ab_Ok1 M pc (ab_push (.long v) 3) := by
  intro ls st σ r h K p l e R s m args below meth c X hdp c0 s0 Q g k H locs ls' cells slots hR hS hl h1 h2 h3 h4
  cases h
  exact lv_ldc2 X.1 X.2.1 X.2.2.2.2.1 (X.2.2.2.2.2.1 _ hw) hd (k H locs ls' cells slots hR hS hl h1 h2 h3 h4)
theorem sn_ldc2d {idx : Nat} {v : UInt64} (hd : decode M.2.1 pc = .ok (.ldc2_w idx, 3)) (hw : Cond.constantDouble M.1.cls idx v ∈ ab_all) : ab_Ok1 M pc (ab_push (.double v) 3) := by
  intro ls st σ r h K p l e R s m args below meth c X hdp c0 s0 Q g k H locs ls' cells slots hR hS hl h1 h2 h3 h4
  cases h
  exact lv_ldc2d X.1 X.2.1 X.2.2.2.2.1 (X.2.2.2.2.2.1 _ hw) hd (k H locs ls' cells slots hR hS hl h1 h2 h3 h4)
theorem sn_iload_n {j : Fin 4} {i : Nat} (hd : decode M.2.1 pc = .ok (.iload_n j, 1)) (hi : (j : Nat) = i) : ab_Ok1 M pc (ab_loadi i 1) := by
  intro ls st σ r h K p l e R s m args below meth c X hdp c0 s0 Q g k H locs ls' cells slots hR hS hl h1 h2 h3 h4
  unfold ab_loadi at h
  split at h
  · rename_i x hx
    cases h
    exact lv_iload_n X.1 X.2.1 hd hi (hl.2.2 _ _ hx (fun h => by cases h)) (k H locs ls' cells slots hR hS hl h1 h2 h3 h4)
  · cases h
theorem sn_iload {i : Nat} (hd : decode M.2.1 pc = .ok (.iload i, 2)) : ab_Ok1 M pc (ab_loadi i 2) := by
  intro ls st σ r h K p l e R s m args below meth c X hdp c0 s0 Q g k H locs ls' cells slots hR hS hl h1 h2 h3 h4
  unfold ab_loadi at h
  split at h
  · rename_i x hx
    cases h
    exact lv_iload X.1 X.2.1 hd (hl.2.2 _ _ hx (fun h => by cases h)) (k H locs ls' cells slots hR hS hl h1 h2 h3 h4)
  · cases h
theorem sn_aload_n {j : Fin 4} {i : Nat} (hd : decode M.2.1 pc = .ok (.aload_n j, 1)) (hi : (j : Nat) = i) : ab_Ok1 M pc (ab_loadr i 1) := by
  intro ls st σ r h K p l e R s m args below meth c X hdp c0 s0 Q g k H locs ls' cells slots hR hS hl h1 h2 h3 h4
  unfold ab_loadr at h
  split at h
  · rename_i x hx
    cases h
    exact lv_aload_n X.1 X.2.1 hd hi (hl.2.2 _ _ hx (fun h => by cases h)) (k H locs ls' cells slots hR hS hl h1 h2 h3 h4)
  · cases h
theorem sn_aload {i : Nat} (hd : decode M.2.1 pc = .ok (.aload i, 2)) : ab_Ok1 M pc (ab_loadr i 2) := by
  intro ls st σ r h K p l e R s m args below meth c X hdp c0 s0 Q g k H locs ls' cells slots hR hS hl h1 h2 h3 h4
  unfold ab_loadr at h
  split at h
  · rename_i x hx
    cases h
    exact lv_aload X.1 X.2.1 hd (hl.2.2 _ _ hx (fun h => by cases h)) (k H locs ls' cells slots hR hS hl h1 h2 h3 h4)
  · cases h
theorem sn_lload_n {j : Fin 4} {i : Nat} (hd : decode M.2.1 pc = .ok (.lload_n j, 1)) (hi : (j : Nat) = i) : ab_Ok1 M pc (ab_loadl i 1) := by
  intro ls st σ r h K p l e R s m args below meth c X hdp c0 s0 Q g k H locs ls' cells slots hR hS hl h1 h2 h3 h4
  unfold ab_loadl at h
  split at h
  · rename_i x hx hx2
    cases h
    exact lv_lload_n X.1 X.2.1 hd hi (hl.2.2 _ _ hx (fun _ => hx2)) (k H locs ls' cells slots hR hS hl h1 h2 h3 h4)
  · cases h
theorem sn_lload {i : Nat} (hd : decode M.2.1 pc = .ok (.lload i, 2)) : ab_Ok1 M pc (ab_loadl i 2) := by
  intro ls st σ r h K p l e R s m args below meth c X hdp c0 s0 Q g k H locs ls' cells slots hR hS hl h1 h2 h3 h4
  unfold ab_loadl at h
  split at h
  · rename_i x hx hx2
    cases h
    exact lv_lload X.1 X.2.1 hd (hl.2.2 _ _ hx (fun _ => hx2)) (k H locs ls' cells slots hR hS hl h1 h2 h3 h4)
  · cases h
theorem sn_dload_n {j : Fin 4} {i : Nat} (hd : decode M.2.1 pc = .ok (.dload_n j, 1)) (hi : (j : Nat) = i) : ab_Ok1 M pc (ab_loadd i 1) := by
  intro ls st σ r h K p l e R s m args below meth c X hdp c0 s0 Q g k H locs ls' cells slots hR hS hl h1 h2 h3 h4
  unfold ab_loadd at h
  split at h
  · rename_i x hx hx2
    cases h
    exact lv_dload_n X.1 X.2.1 hd hi (hl.2.2 _ _ hx (fun _ => hx2)) (k H locs ls' cells slots hR hS hl h1 h2 h3 h4)
  · cases h
theorem sn_dload {i : Nat} (hd : decode M.2.1 pc = .ok (.dload i, 2)) : ab_Ok1 M pc (ab_loadd i 2) := by
  intro ls st σ r h K p l e R s m args below meth c X hdp c0 s0 Q g k H locs ls' cells slots hR hS hl h1 h2 h3 h4
  unfold ab_loadd at h
  split at h
  · rename_i x hx hx2
    cases h
    exact lv_dload X.1 X.2.1 hd (hl.2.2 _ _ hx (fun _ => hx2)) (k H locs ls' cells slots hR hS hl h1 h2 h3 h4)
  · cases h
theorem sn_istore_n {j : Fin 4} {i : Nat} (hd : decode M.2.1 pc = .ok (.istore_n j, 1)) (hi : (j : Nat) = i) (hb : i < M.2.2.1) : ab_Ok1 M pc (ab_stori i 1) := by
  intro ls st σ r h K p l e R s m args below meth c X hdp c0 s0 Q g k H locs ls' cells slots hR hS hl h1 h2 h3 h4
  unfold ab_stori at h
  split at h
  · cases h
    have hb := X.2.2.2.1 ▸ hb
    exact lv_istore_n X.1 X.2.1 hd hi (ab_lr_has hl) hb rfl (fun ls2 h9 => k H locs ls2 cells slots hR hS (ab_lr_1 rfl rfl hl h9) h1 h2 h3 h4)
  · cases h
theorem sn_istore {i : Nat} (hd : decode M.2.1 pc = .ok (.istore i, 2)) (hb : i < M.2.2.1) : ab_Ok1 M pc (ab_stori i 2) := by
  intro ls st σ r h K p l e R s m args below meth c X hdp c0 s0 Q g k H locs ls' cells slots hR hS hl h1 h2 h3 h4
  unfold ab_stori at h
  split at h
  · cases h
    have hb := X.2.2.2.1 ▸ hb
    exact lv_istore X.1 X.2.1 hd (ab_lr_has hl) hb rfl (fun ls2 h9 => k H locs ls2 cells slots hR hS (ab_lr_1 rfl rfl hl h9) h1 h2 h3 h4)
  · cases h
theorem sn_astore_n {j : Fin 4} {i : Nat} (hd : decode M.2.1 pc = .ok (.astore_n j, 1)) (hi : (j : Nat) = i) (hb : i < M.2.2.1) : ab_Ok1 M pc (ab_storr i 1) := by
  intro ls st σ r h K p l e R s m args below meth c X hdp c0 s0 Q g k H locs ls' cells slots hR hS hl h1 h2 h3 h4
  unfold ab_storr at h
  split at h
  · cases h
    have hb := X.2.2.2.1 ▸ hb
    exact lv_astore_n X.1 X.2.1 hd hi (ab_lr_has hl) hb rfl (fun ls2 h9 => k H locs ls2 cells slots hR hS (ab_lr_1 rfl rfl hl h9) h1 h2 h3 h4)
  · cases h
theorem sn_astore {i : Nat} (hd : decode M.2.1 pc = .ok (.astore i, 2)) (hb : i < M.2.2.1) : ab_Ok1 M pc (ab_storr i 2) := by
  intro ls st σ r h K p l e R s m args below meth c X hdp c0 s0 Q g k H locs ls' cells slots hR hS hl h1 h2 h3 h4
  unfold ab_storr at h
  split at h
  · cases h
    have hb := X.2.2.2.1 ▸ hb
    exact lv_astore X.1 X.2.1 hd (ab_lr_has hl) hb rfl (fun ls2 h9 => k H locs ls2 cells slots hR hS (ab_lr_1 rfl rfl hl h9) h1 h2 h3 h4)
  · cases h
theorem sn_lstore_n {j : Fin 4} {i : Nat} (hd : decode M.2.1 pc = .ok (.lstore_n j, 1)) (hi : (j : Nat) = i) (hb : i + 1 < M.2.2.1) : ab_Ok1 M pc (ab_storl i 1) := by
  intro ls st σ r h K p l e R s m args below meth c X hdp c0 s0 Q g k H locs ls' cells slots hR hS hl h1 h2 h3 h4
  unfold ab_storl at h
  split at h
  · cases h
    have hb := X.2.2.2.1 ▸ hb
    exact lv_lstore_n X.1 X.2.1 hd hi (ab_lr_has hl) hb rfl (fun ls2 h9 => k H locs ls2 cells slots hR hS (ab_lr_2 rfl rfl hl h9) h1 h2 h3 h4)
  · cases h
theorem sn_lstore {i : Nat} (hd : decode M.2.1 pc = .ok (.lstore i, 2)) (hb : i + 1 < M.2.2.1) : ab_Ok1 M pc (ab_storl i 2) := by
  intro ls st σ r h K p l e R s m args below meth c X hdp c0 s0 Q g k H locs ls' cells slots hR hS hl h1 h2 h3 h4
  unfold ab_storl at h
  split at h
  · cases h
    have hb := X.2.2.2.1 ▸ hb
    exact lv_lstore X.1 X.2.1 hd (ab_lr_has hl) hb rfl (fun ls2 h9 => k H locs ls2 cells slots hR hS (ab_lr_2 rfl rfl hl h9) h1 h2 h3 h4)
  · cases h
theorem sn_dstore_n {j : Fin 4} {i : Nat} (hd : decode M.2.1 pc = .ok (.dstore_n j, 1)) (hi : (j : Nat) = i) (hb : i + 1 < M.2.2.1) : ab_Ok1 M pc (ab_stord i 1) := by
  intro ls st σ r h K p l e R s m args below meth c X hdp c0 s0 Q g k H locs ls' cells slots hR hS hl h1 h2 h3 h4
  unfold ab_stord at h
  split at h
  · cases h
    have hb := X.2.2.2.1 ▸ hb
    exact lv_dstore_n X.1 X.2.1 hd hi (ab_lr_has hl) hb rfl (fun ls2 h9 => k H locs ls2 cells slots hR hS (ab_lr_2 rfl rfl hl h9) h1 h2 h3 h4)
  · cases h
theorem sn_dstore {i : Nat} (hd : decode M.2.1 pc = .ok (.dstore i, 2)) (hb : i + 1 < M.2.2.1) : ab_Ok1 M pc (ab_stord i 2) := by
  intro ls st σ r h K p l e R s m args below meth c X hdp c0 s0 Q g k H locs ls' cells slots hR hS hl h1 h2 h3 h4
  unfold ab_stord at h
  split at h
  · cases h
    have hb := X.2.2.2.1 ▸ hb
    exact lv_dstore X.1 X.2.1 hd (ab_lr_has hl) hb rfl (fun ls2 h9 => k H locs ls2 cells slots hR hS (ab_lr_2 rfl rfl hl h9) h1 h2 h3 h4)
  · cases h
theorem sn_iinc {i : Nat} {n : Int} {v : Int32} (hd : decode M.2.1 pc = .ok (.iinc i n, 3)) (hv : Int32.ofInt n = v) (hb : i < M.2.2.1) : ab_Ok1 M pc (ab_iinc i v) := by
  intro ls st σ r h K p l e R s m args below meth c X hdp c0 s0 Q g k H locs ls' cells slots hR hS hl h1 h2 h3 h4
  unfold ab_iinc at h
  split at h
  · rename_i x hx
    cases h
    subst hv
    have hb := X.2.2.2.1 ▸ hb
    obtain ⟨j, hj⟩ := List.mem_iff_getElem?.mp (ab_ll_in (K := K) hb hx (fun h => by cases h))
    exact lv_iinc X.1 X.2.1 hd (ab_lr_has hl) hj rfl hb rfl (fun ls2 h9 => k H locs ls2 cells slots hR hS (ab_lr_1 rfl rfl hl h9) h1 h2 h3 h4)
  · cases h
theorem sn_iadd (hd : decode M.2.1 pc = .ok (.iadd, 1)) : ab_Ok1 M pc (ab_ib (fun x y => x + y)) := by
  intro ls st σ r h K p l e R s m args below meth c X hdp c0 s0 Q g k H locs ls' cells slots hR hS hl h1 h2 h3 h4
  unfold ab_ib at h
  split at h
  · cases h
    exact lv_iadd X.1 X.2.1 hd (k H locs ls' cells slots hR hS hl h1 h2 h3 h4)
  · cases h
theorem sn_isub (hd : decode M.2.1 pc = .ok (.isub, 1)) : ab_Ok1 M pc (ab_ib (fun x y => x - y)) := by
  intro ls st σ r h K p l e R s m args below meth c X hdp c0 s0 Q g k H locs ls' cells slots hR hS hl h1 h2 h3 h4
  unfold ab_ib at h
  split at h
  · cases h
    exact lv_isub X.1 X.2.1 hd (k H locs ls' cells slots hR hS hl h1 h2 h3 h4)
  · cases h
theorem sn_imul (hd : decode M.2.1 pc = .ok (.imul, 1)) : ab_Ok1 M pc (ab_ib (fun x y => x * y)) := by
  intro ls st σ r h K p l e R s m args below meth c X hdp c0 s0 Q g k H locs ls' cells slots hR hS hl h1 h2 h3 h4
  unfold ab_ib at h
  split at h
  · cases h
    exact lv_imul X.1 X.2.1 hd (k H locs ls' cells slots hR hS hl h1 h2 h3 h4)
  · cases h
theorem sn_iand (hd : decode M.2.1 pc = .ok (.iand, 1)) : ab_Ok1 M pc (ab_ib (fun x y => x &&& y)) := by
  intro ls st σ r h K p l e R s m args below meth c X hdp c0 s0 Q g k H locs ls' cells slots hR hS hl h1 h2 h3 h4
  unfold ab_ib at h
  split at h
  · cases h
    exact lv_iand X.1 X.2.1 hd (k H locs ls' cells slots hR hS hl h1 h2 h3 h4)
  · cases h
theorem sn_ior (hd : decode M.2.1 pc = .ok (.ior, 1)) : ab_Ok1 M pc (ab_ib (fun x y => x ||| y)) := by
  intro ls st σ r h K p l e R s m args below meth c X hdp c0 s0 Q g k H locs ls' cells slots hR hS hl h1 h2 h3 h4
  unfold ab_ib at h
  split at h
  · cases h
    exact lv_ior X.1 X.2.1 hd (k H locs ls' cells slots hR hS hl h1 h2 h3 h4)
  · cases h
theorem sn_ishl (hd : decode M.2.1 pc = .ok (.ishl, 1)) : ab_Ok1 M pc (ab_ib (fun x y => x <<< (y &&& 31))) := by
  intro ls st σ r h K p l e R s m args below meth c X hdp c0 s0 Q g k H locs ls' cells slots hR hS hl h1 h2 h3 h4
  unfold ab_ib at h
  split at h
  · cases h
    exact lv_ishl X.1 X.2.1 hd (k H locs ls' cells slots hR hS hl h1 h2 h3 h4)
  · cases h
theorem sn_ishr (hd : decode M.2.1 pc = .ok (.ishr, 1)) : ab_Ok1 M pc (ab_ib (fun x y => x >>> (y &&& 31))) := by
  intro ls st σ r h K p l e R s m args below meth c X hdp c0 s0 Q g k H locs ls' cells slots hR hS hl h1 h2 h3 h4
  unfold ab_ib at h
  split at h
  · cases h
    exact lv_ishr X.1 X.2.1 hd (k H locs ls' cells slots hR hS hl h1 h2 h3 h4)
  · cases h
theorem sn_iushr (hd : decode M.2.1 pc = .ok (.iushr, 1)) : ab_Ok1 M pc (ab_ib (fun x y => (x.toUInt32 >>> (y.toUInt32 &&& Int32.toUInt32 31)).toInt32)) := by
  intro ls st σ r h K p l e R s m args below meth c X hdp c0 s0 Q g k H locs ls' cells slots hR hS hl h1 h2 h3 h4
  unfold ab_ib at h
  split at h
  · cases h
    exact lv_iushr X.1 X.2.1 hd rfl (k H locs ls' cells slots hR hS hl h1 h2 h3 h4)
  · cases h
theorem sn_ineg (hd : decode M.2.1 pc = .ok (.ineg, 1)) : ab_Ok1 M pc ab_ing := by
  intro ls st σ r h K p l e R s m args below meth c X hdp c0 s0 Q g k H locs ls' cells slots hR hS hl h1 h2 h3 h4
  unfold ab_ing at h
  split at h
  · cases h
    exact lv_ineg X.1 X.2.1 hd (k H locs ls' cells slots hR hS hl h1 h2 h3 h4)
  · cases h
theorem sn_dup_x2 (hd : decode M.2.1 pc = .ok (.dup_x2, 1)) : ab_Ok1 M pc ab_dx2 := by
  intro ls st σ r h K p l e R s m args below meth c X hdp c0 s0 Q g k H locs ls' cells slots hR hS hl h1 h2 h3 h4
  unfold ab_dx2 at h
  split at h
  · cases h
    exact lv_dup_x2 X.1 X.2.1 hd rfl rfl rfl (k H locs ls' cells slots hR hS hl h1 h2 h3 h4)
  · cases h
theorem sn_ladd (hd : decode M.2.1 pc = .ok (.ladd, 1)) : ab_Ok1 M pc (ab_lb (fun x y => x + y)) := by
  intro ls st σ r h K p l e R s m args below meth c X hdp c0 s0 Q g k H locs ls' cells slots hR hS hl h1 h2 h3 h4
  unfold ab_lb at h
  split at h
  · cases h
    exact lv_ladd X.1 X.2.1 hd (k H locs ls' cells slots hR hS hl h1 h2 h3 h4)
  · cases h
theorem sn_lsub (hd : decode M.2.1 pc = .ok (.lsub, 1)) : ab_Ok1 M pc (ab_lb (fun x y => x - y)) := by
  intro ls st σ r h K p l e R s m args below meth c X hdp c0 s0 Q g k H locs ls' cells slots hR hS hl h1 h2 h3 h4
  unfold ab_lb at h
  split at h
  · cases h
    exact lv_lsub X.1 X.2.1 hd (k H locs ls' cells slots hR hS hl h1 h2 h3 h4)
  · cases h
theorem sn_lmul (hd : decode M.2.1 pc = .ok (.lmul, 1)) : ab_Ok1 M pc (ab_lb (fun x y => x * y)) := by
  intro ls st σ r h K p l e R s m args below meth c X hdp c0 s0 Q g k H locs ls' cells slots hR hS hl h1 h2 h3 h4
  unfold ab_lb at h
  split at h
  · cases h
    exact lv_lmul X.1 X.2.1 hd (k H locs ls' cells slots hR hS hl h1 h2 h3 h4)
  · cases h
theorem sn_land (hd : decode M.2.1 pc = .ok (.land, 1)) : ab_Ok1 M pc (ab_lb (fun x y => x &&& y)) := by
  intro ls st σ r h K p l e R s m args below meth c X hdp c0 s0 Q g k H locs ls' cells slots hR hS hl h1 h2 h3 h4
  unfold ab_lb at h
  split at h
  · cases h
    exact lv_land X.1 X.2.1 hd (k H locs ls' cells slots hR hS hl h1 h2 h3 h4)
  · cases h
theorem sn_lor (hd : decode M.2.1 pc = .ok (.lor, 1)) : ab_Ok1 M pc (ab_lb (fun x y => x ||| y)) := by
  intro ls st σ r h K p l e R s m args below meth c X hdp c0 s0 Q g k H locs ls' cells slots hR hS hl h1 h2 h3 h4
  unfold ab_lb at h
  split at h
  · cases h
    exact lv_lor X.1 X.2.1 hd (k H locs ls' cells slots hR hS hl h1 h2 h3 h4)
  · cases h
theorem sn_idiv (hd : decode M.2.1 pc = .ok (.idiv, 1)) : ab_Ok1 M pc (ab_idv (fun x y => x / y)) := by
  intro ls st σ r h K p l e R s m args below meth c X hdp c0 s0 Q g k H locs ls' cells slots hR hS hl h1 h2 h3 h4
  unfold ab_idv at h
  split at h
  · split at h
    · cases h
    · rename_i hne
      cases h
      exact lv_idiv X.1 X.2.1 hd hne (k H locs ls' cells slots hR hS hl h1 h2 h3 h4)
  · cases h
theorem sn_irem (hd : decode M.2.1 pc = .ok (.irem, 1)) : ab_Ok1 M pc (ab_idv (fun x y => x - x / y * y)) := by
  intro ls st σ r h K p l e R s m args below meth c X hdp c0 s0 Q g k H locs ls' cells slots hR hS hl h1 h2 h3 h4
  unfold ab_idv at h
  split at h
  · split at h
    · cases h
    · rename_i hne
      cases h
      exact lv_irem X.1 X.2.1 hd hne (k H locs ls' cells slots hR hS hl h1 h2 h3 h4)
  · cases h
theorem sn_ldiv (hd : decode M.2.1 pc = .ok (.ldiv, 1)) : ab_Ok1 M pc (ab_ldv (fun x y => x / y)) := by
  intro ls st σ r h K p l e R s m args below meth c X hdp c0 s0 Q g k H locs ls' cells slots hR hS hl h1 h2 h3 h4
  unfold ab_ldv at h
  split at h
  · split at h
    · cases h
    · rename_i hne
      cases h
      exact lv_ldiv X.1 X.2.1 hd hne (k H locs ls' cells slots hR hS hl h1 h2 h3 h4)
  · cases h
theorem sn_lrem (hd : decode M.2.1 pc = .ok (.lrem, 1)) : ab_Ok1 M pc (ab_ldv (fun x y => x - x / y * y)) := by
  intro ls st σ r h K p l e R s m args below meth c X hdp c0 s0 Q g k H locs ls' cells slots hR hS hl h1 h2 h3 h4
  unfold ab_ldv at h
  split at h
  · split at h
    · cases h
    · rename_i hne
      cases h
      exact lv_lrem X.1 X.2.1 hd hne (k H locs ls' cells slots hR hS hl h1 h2 h3 h4)
  · cases h
theorem sn_lshl (hd : decode M.2.1 pc = .ok (.lshl, 1)) : ab_Ok1 M pc (ab_lsh) := by
  intro ls st σ r h K p l e R s m args below meth c X hdp c0 s0 Q g k H locs ls' cells slots hR hS hl h1 h2 h3 h4
  unfold ab_lsh at h
  split at h
  · cases h
    exact lv_lshl X.1 X.2.1 hd rfl (k H locs ls' cells slots hR hS hl h1 h2 h3 h4)
  · cases h
theorem sn_i2l (hd : decode M.2.1 pc = .ok (.i2l, 1)) : ab_Ok1 M pc (ab_i2l) := by
  intro ls st σ r h K p l e R s m args below meth c X hdp c0 s0 Q g k H locs ls' cells slots hR hS hl h1 h2 h3 h4
  unfold ab_i2l at h
  split at h
  · cases h
    exact lv_i2l X.1 X.2.1 hd rfl (k H locs ls' cells slots hR hS hl h1 h2 h3 h4)
  · cases h
theorem sn_l2i (hd : decode M.2.1 pc = .ok (.l2i, 1)) : ab_Ok1 M pc (ab_l2i) := by
  intro ls st σ r h K p l e R s m args below meth c X hdp c0 s0 Q g k H locs ls' cells slots hR hS hl h1 h2 h3 h4
  unfold ab_l2i at h
  split at h
  · cases h
    exact lv_l2i X.1 X.2.1 hd rfl (k H locs ls' cells slots hR hS hl h1 h2 h3 h4)
  · cases h
theorem sn_lneg (hd : decode M.2.1 pc = .ok (.lneg, 1)) : ab_Ok1 M pc (ab_lng) := by
  intro ls st σ r h K p l e R s m args below meth c X hdp c0 s0 Q g k H locs ls' cells slots hR hS hl h1 h2 h3 h4
  unfold ab_lng at h
  split at h
  · cases h
    exact lv_lneg X.1 X.2.1 hd (k H locs ls' cells slots hR hS hl h1 h2 h3 h4)
  · cases h
theorem sn_i2d (hd : decode M.2.1 pc = .ok (.i2d, 1)) : ab_Ok1 M pc (ab_i2d) := by
  intro ls st σ r h K p l e R s m args below meth c X hdp c0 s0 Q g k H locs ls' cells slots hR hS hl h1 h2 h3 h4
  unfold ab_i2d at h
  split at h
  · cases h
    exact lv_i2d X.1 X.2.1 hd (k H locs ls' cells slots hR hS hl h1 h2 h3 h4)
  · cases h
theorem sn_l2d (hd : decode M.2.1 pc = .ok (.l2d, 1)) : ab_Ok1 M pc (ab_l2d) := by
  intro ls st σ r h K p l e R s m args below meth c X hdp c0 s0 Q g k H locs ls' cells slots hR hS hl h1 h2 h3 h4
  unfold ab_l2d at h
  split at h
  · cases h
    exact lv_l2d X.1 X.2.1 hd (k H locs ls' cells slots hR hS hl h1 h2 h3 h4)
  · cases h
theorem sn_d2l (hd : decode M.2.1 pc = .ok (.d2l, 1)) : ab_Ok1 M pc (ab_d2l) := by
  intro ls st σ r h K p l e R s m args below meth c X hdp c0 s0 Q g k H locs ls' cells slots hR hS hl h1 h2 h3 h4
  unfold ab_d2l at h
  split at h
  · cases h
    exact lv_d2l X.1 X.2.1 hd (k H locs ls' cells slots hR hS hl h1 h2 h3 h4)
  · cases h
theorem sn_lcmp (hd : decode M.2.1 pc = .ok (.lcmp, 1)) : ab_Ok1 M pc (ab_lcmp) := by
  intro ls st σ r h K p l e R s m args below meth c X hdp c0 s0 Q g k H locs ls' cells slots hR hS hl h1 h2 h3 h4
  unfold ab_lcmp at h
  split at h
  · cases h
    exact W.lcmp X.1 X.2.1 hd (k H locs ls' cells slots hR hS hl h1 h2 h3 h4)
  · cases h
theorem sn_dsub (hd : decode M.2.1 pc = .ok (.dsub, 1)) : ab_Ok1 M pc (ab_db FP.dsub) := by
  intro ls st σ r h K p l e R s m args below meth c X hdp c0 s0 Q g k H locs ls' cells slots hR hS hl h1 h2 h3 h4
  unfold ab_db at h
  split at h
  · split at h
    · rename_i hne
      cases h
      exact lv_dsub X.1 X.2.1 hd (ab_n64_of hne) (k H locs ls' cells slots hR hS hl h1 h2 h3 h4)
    · cases h
  · cases h
theorem sn_dmul (hd : decode M.2.1 pc = .ok (.dmul, 1)) : ab_Ok1 M pc (ab_db FP.dmul) := by
  intro ls st σ r h K p l e R s m args below meth c X hdp c0 s0 Q g k H locs ls' cells slots hR hS hl h1 h2 h3 h4
  unfold ab_db at h
  split at h
  · split at h
    · rename_i hne
      cases h
      exact lv_dmul X.1 X.2.1 hd (ab_n64_of hne) (k H locs ls' cells slots hR hS hl h1 h2 h3 h4)
    · cases h
  · cases h
theorem sn_ddiv (hd : decode M.2.1 pc = .ok (.ddiv, 1)) : ab_Ok1 M pc (ab_db FP.ddiv) := by
  intro ls st σ r h K p l e R s m args below meth c X hdp c0 s0 Q g k H locs ls' cells slots hR hS hl h1 h2 h3 h4
  unfold ab_db at h
  split at h
  · split at h
    · rename_i hne
      cases h
      exact lv_ddiv X.1 X.2.1 hd (ab_n64_of hne) (k H locs ls' cells slots hR hS hl h1 h2 h3 h4)
    · cases h
  · cases h
theorem sn_dcmp {op : CmpOp} (hd : decode M.2.1 pc = .ok (.dcmp op, 1)) : ab_Ok1 M pc (ab_dcmp op) := by
  intro ls st σ r h K p l e R s m args below meth c X hdp c0 s0 Q g k H locs ls' cells slots hR hS hl h1 h2 h3 h4
  unfold ab_dcmp at h
  split at h
  · cases h
    exact lv_dcmp X.1 X.2.1 hd (k H locs ls' cells slots hR hS hl h1 h2 h3 h4)
  · cases h
theorem sn_if_eq {off : Int} {tgt : Nat} (hd : decode M.2.1 pc = .ok (.ifCond .eq off, 3)) (ht : (pc : Int) + off = (tgt : Int)) : ab_Ok1 M pc (ab_if (fun x => decide (x = 0)) tgt) := by
  intro ls st σ r h K p l e R s m args below meth c X hdp c0 s0 Q g k H locs ls' cells slots hR hS hl h1 h2 h3 h4
  unfold ab_if at h
  split at h
  · cases h
    exact lv_if_eq X.1 X.2.1 hd ht (fun hc => by have k9 := k H locs ls' cells slots hR hS hl h1 h2 h3 h4; rw [if_pos (decide_eq_true hc)] at k9; exact k9) (fun hc => by have k9 := k H locs ls' cells slots hR hS hl h1 h2 h3 h4; rw [if_neg (fun h9 => hc (of_decide_eq_true h9))] at k9; exact k9)
  · cases h
theorem sn_icmp_eq {off : Int} {tgt : Nat} (hd : decode M.2.1 pc = .ok (.if_icmp .eq off, 3)) (ht : (pc : Int) + off = (tgt : Int)) : ab_Ok1 M pc (ab_ic (fun x y => decide (x = y)) tgt) := by
  intro ls st σ r h K p l e R s m args below meth c X hdp c0 s0 Q g k H locs ls' cells slots hR hS hl h1 h2 h3 h4
  unfold ab_ic at h
  split at h
  · cases h
    exact lv_icmp_eq X.1 X.2.1 hd ht (fun hc => by have k9 := k H locs ls' cells slots hR hS hl h1 h2 h3 h4; rw [if_pos (decide_eq_true hc)] at k9; exact k9) (fun hc => by have k9 := k H locs ls' cells slots hR hS hl h1 h2 h3 h4; rw [if_neg (fun h9 => hc (of_decide_eq_true h9))] at k9; exact k9)
  · cases h
theorem sn_if_ne {off : Int} {tgt : Nat} (hd : decode M.2.1 pc = .ok (.ifCond .ne off, 3)) (ht : (pc : Int) + off = (tgt : Int)) : ab_Ok1 M pc (ab_if (fun x => decide (¬ x = 0)) tgt) := by
  intro ls st σ r h K p l e R s m args below meth c X hdp c0 s0 Q g k H locs ls' cells slots hR hS hl h1 h2 h3 h4
  unfold ab_if at h
  split at h
  · cases h
    exact lv_if_ne X.1 X.2.1 hd ht (fun hc => by have k9 := k H locs ls' cells slots hR hS hl h1 h2 h3 h4; rw [if_pos (decide_eq_true hc)] at k9; exact k9) (fun hc => by have k9 := k H locs ls' cells slots hR hS hl h1 h2 h3 h4; rw [if_neg (fun h9 => (of_decide_eq_true h9) hc)] at k9; exact k9)
  · cases h
theorem sn_icmp_ne {off : Int} {tgt : Nat} (hd : decode M.2.1 pc = .ok (.if_icmp .ne off, 3)) (ht : (pc : Int) + off = (tgt : Int)) : ab_Ok1 M pc (ab_ic (fun x y => decide (¬ x = y)) tgt) := by
  intro ls st σ r h K p l e R s m args below meth c X hdp c0 s0 Q g k H locs ls' cells slots hR hS hl h1 h2 h3 h4
  unfold ab_ic at h
  split at h
  · cases h
    exact lv_icmp_ne X.1 X.2.1 hd ht (fun hc => by have k9 := k H locs ls' cells slots hR hS hl h1 h2 h3 h4; rw [if_pos (decide_eq_true hc)] at k9; exact k9) (fun hc => by have k9 := k H locs ls' cells slots hR hS hl h1 h2 h3 h4; rw [if_neg (fun h9 => (of_decide_eq_true h9) hc)] at k9; exact k9)
  · cases h
theorem sn_if_lt {off : Int} {tgt : Nat} (hd : decode M.2.1 pc = .ok (.ifCond .lt off, 3)) (ht : (pc : Int) + off = (tgt : Int)) : ab_Ok1 M pc (ab_if (fun x => decide (x < 0)) tgt) := by
  intro ls st σ r h K p l e R s m args below meth c X hdp c0 s0 Q g k H locs ls' cells slots hR hS hl h1 h2 h3 h4
  unfold ab_if at h
  split at h
  · cases h
    exact lv_if_lt X.1 X.2.1 hd ht (fun hc => by have k9 := k H locs ls' cells slots hR hS hl h1 h2 h3 h4; rw [if_pos (decide_eq_true hc)] at k9; exact k9) (fun hc => by have k9 := k H locs ls' cells slots hR hS hl h1 h2 h3 h4; rw [if_neg (fun h9 => hc (of_decide_eq_true h9))] at k9; exact k9)
  · cases h
theorem sn_icmp_lt {off : Int} {tgt : Nat} (hd : decode M.2.1 pc = .ok (.if_icmp .lt off, 3)) (ht : (pc : Int) + off = (tgt : Int)) : ab_Ok1 M pc (ab_ic (fun x y => decide (x < y)) tgt) := by
  intro ls st σ r h K p l e R s m args below meth c X hdp c0 s0 Q g k H locs ls' cells slots hR hS hl h1 h2 h3 h4
  unfold ab_ic at h
  split at h
  · cases h
    exact lv_icmp_lt X.1 X.2.1 hd ht (fun hc => by have k9 := k H locs ls' cells slots hR hS hl h1 h2 h3 h4; rw [if_pos (decide_eq_true hc)] at k9; exact k9) (fun hc => by have k9 := k H locs ls' cells slots hR hS hl h1 h2 h3 h4; rw [if_neg (fun h9 => hc (of_decide_eq_true h9))] at k9; exact k9)
  · cases h
theorem sn_if_ge {off : Int} {tgt : Nat} (hd : decode M.2.1 pc = .ok (.ifCond .ge off, 3)) (ht : (pc : Int) + off = (tgt : Int)) : ab_Ok1 M pc (ab_if (fun x => decide (0 ≤ x)) tgt) := by
  intro ls st σ r h K p l e R s m args below meth c X hdp c0 s0 Q g k H locs ls' cells slots hR hS hl h1 h2 h3 h4
  unfold ab_if at h
  split at h
  · cases h
    exact lv_if_ge X.1 X.2.1 hd ht (fun hc => by have k9 := k H locs ls' cells slots hR hS hl h1 h2 h3 h4; rw [if_pos (decide_eq_true hc)] at k9; exact k9) (fun hc => by have k9 := k H locs ls' cells slots hR hS hl h1 h2 h3 h4; rw [if_neg (fun h9 => hc (of_decide_eq_true h9))] at k9; exact k9)
  · cases h
theorem sn_icmp_ge {off : Int} {tgt : Nat} (hd : decode M.2.1 pc = .ok (.if_icmp .ge off, 3)) (ht : (pc : Int) + off = (tgt : Int)) : ab_Ok1 M pc (ab_ic (fun x y => decide (y ≤ x)) tgt) := by
  intro ls st σ r h K p l e R s m args below meth c X hdp c0 s0 Q g k H locs ls' cells slots hR hS hl h1 h2 h3 h4
  unfold ab_ic at h
  split at h
  · cases h
    exact lv_icmp_ge X.1 X.2.1 hd ht (fun hc => by have k9 := k H locs ls' cells slots hR hS hl h1 h2 h3 h4; rw [if_pos (decide_eq_true hc)] at k9; exact k9) (fun hc => by have k9 := k H locs ls' cells slots hR hS hl h1 h2 h3 h4; rw [if_neg (fun h9 => hc (of_decide_eq_true h9))] at k9; exact k9)
  · cases h
theorem sn_if_gt {off : Int} {tgt : Nat} (hd : decode M.2.1 pc = .ok (.ifCond .gt off, 3)) (ht : (pc : Int) + off = (tgt : Int)) : ab_Ok1 M pc (ab_if (fun x => decide (0 < x)) tgt) := by
  intro ls st σ r h K p l e R s m args below meth c X hdp c0 s0 Q g k H locs ls' cells slots hR hS hl h1 h2 h3 h4
  unfold ab_if at h
  split at h
  · cases h
    exact lv_if_gt X.1 X.2.1 hd ht (fun hc => by have k9 := k H locs ls' cells slots hR hS hl h1 h2 h3 h4; rw [if_pos (decide_eq_true hc)] at k9; exact k9) (fun hc => by have k9 := k H locs ls' cells slots hR hS hl h1 h2 h3 h4; rw [if_neg (fun h9 => hc (of_decide_eq_true h9))] at k9; exact k9)
  · cases h
theorem sn_icmp_gt {off : Int} {tgt : Nat} (hd : decode M.2.1 pc = .ok (.if_icmp .gt off, 3)) (ht : (pc : Int) + off = (tgt : Int)) : ab_Ok1 M pc (ab_ic (fun x y => decide (y < x)) tgt) := by
  intro ls st σ r h K p l e R s m args below meth c X hdp c0 s0 Q g k H locs ls' cells slots hR hS hl h1 h2 h3 h4
  unfold ab_ic at h
  split at h
  · cases h
    exact lv_icmp_gt X.1 X.2.1 hd ht (fun hc => by have k9 := k H locs ls' cells slots hR hS hl h1 h2 h3 h4; rw [if_pos (decide_eq_true hc)] at k9; exact k9) (fun hc => by have k9 := k H locs ls' cells slots hR hS hl h1 h2 h3 h4; rw [if_neg (fun h9 => hc (of_decide_eq_true h9))] at k9; exact k9)
  · cases h
theorem sn_if_le {off : Int} {tgt : Nat} (hd : decode M.2.1 pc = .ok (.ifCond .le off, 3)) (ht : (pc : Int) + off = (tgt : Int)) : ab_Ok1 M pc (ab_if (fun x => decide (x ≤ 0)) tgt) := by
  intro ls st σ r h K p l e R s m args below meth c X hdp c0 s0 Q g k H locs ls' cells slots hR hS hl h1 h2 h3 h4
  unfold ab_if at h
  split at h
  · cases h
    exact lv_if_le X.1 X.2.1 hd ht (fun hc => by have k9 := k H locs ls' cells slots hR hS hl h1 h2 h3 h4; rw [if_pos (decide_eq_true hc)] at k9; exact k9) (fun hc => by have k9 := k H locs ls' cells slots hR hS hl h1 h2 h3 h4; rw [if_neg (fun h9 => hc (of_decide_eq_true h9))] at k9; exact k9)
  · cases h
theorem sn_icmp_le {off : Int} {tgt : Nat} (hd : decode M.2.1 pc = .ok (.if_icmp .le off, 3)) (ht : (pc : Int) + off = (tgt : Int)) : ab_Ok1 M pc (ab_ic (fun x y => decide (x ≤ y)) tgt) := by
  intro ls st σ r h K p l e R s m args below meth c X hdp c0 s0 Q g k H locs ls' cells slots hR hS hl h1 h2 h3 h4
  unfold ab_ic at h
  split at h
  · cases h
    exact lv_icmp_le X.1 X.2.1 hd ht (fun hc => by have k9 := k H locs ls' cells slots hR hS hl h1 h2 h3 h4; rw [if_pos (decide_eq_true hc)] at k9; exact k9) (fun hc => by have k9 := k H locs ls' cells slots hR hS hl h1 h2 h3 h4; rw [if_neg (fun h9 => hc (of_decide_eq_true h9))] at k9; exact k9)
  · cases h
theorem sn_goto {off : Int} {tgt : Nat} (hd : decode M.2.1 pc = .ok (.goto off, 3)) (ht : (pc : Int) + off = (tgt : Int)) : ab_Ok1 M pc (ab_goto tgt) := by
  intro ls st σ r h K p l e R s m args below meth c X hdp c0 s0 Q g k H locs ls' cells slots hR hS hl h1 h2 h3 h4
  cases h
  exact lv_goto X.1 X.2.1 hd ht (k H locs ls' cells slots hR hS hl h1 h2 h3 h4)
theorem sn_dup (hd : decode M.2.1 pc = .ok (.dup, 1)) : ab_Ok1 M pc ab_dup := by
  intro ls st σ r h K p l e R s m args below meth c X hdp c0 s0 Q g k H locs ls' cells slots hR hS hl h1 h2 h3 h4
  unfold ab_dup at h
  split at h
  · cases h
    exact lv_dup X.1 X.2.1 hd rfl (k H locs ls' cells slots hR hS hl h1 h2 h3 h4)
  · cases h
    exact lv_dup X.1 X.2.1 hd rfl (k H locs ls' cells slots hR hS hl h1 h2 h3 h4)
  · cases h
theorem sn_dup2 (hd : decode M.2.1 pc = .ok (.dup2, 1)) : ab_Ok1 M pc ab_dup2 := by
  intro ls st σ r h K p l e R s m args below meth c X hdp c0 s0 Q g k H locs ls' cells slots hR hS hl h1 h2 h3 h4
  unfold ab_dup2 at h
  split at h
  · cases h
    exact lv_dup2_11 X.1 X.2.1 hd rfl rfl (k H locs ls' cells slots hR hS hl h1 h2 h3 h4)
  · cases h
    exact lv_dup2_2 X.1 X.2.1 hd rfl (k H locs ls' cells slots hR hS hl h1 h2 h3 h4)
  · cases h
theorem sn_pop (hd : decode M.2.1 pc = .ok (.pop, 1)) : ab_Ok1 M pc ab_pop := by
  intro ls st σ r h K p l e R s m args below meth c X hdp c0 s0 Q g k H locs ls' cells slots hR hS hl h1 h2 h3 h4
  unfold ab_pop at h
  split at h
  · cases h
    exact lv_pop X.1 X.2.1 hd rfl (k H locs ls' cells slots hR hS hl h1 h2 h3 h4)
  · cases h
theorem sn_swi {dflt lo hi : Int} {offs : Array Int} {len d : Nat} {tg : List Nat} (hd : decode M.2.1 pc = .ok (.tableswitch dflt lo hi offs, len)) (h0 : (pc : Int) + dflt = (d : Int)) (ho : offs.toList.map (fun o => (pc : Int) + o) = tg.map Int.ofNat) : ab_Ok1 M pc (ab_swi lo hi d tg) := by
  intro ls st σ r h K p l e R s m args below meth c X hdp c0 s0 Q g k H locs ls' cells slots hR hS hl h1 h2 h3 h4
  unfold ab_swi at h
  split at h
  · split at h
    · rename_i hc
      cases h
      exact lv_tableOut X.1 X.2.1 hd hc h0 (k H locs ls' cells slots hR hS hl h1 h2 h3 h4)
    · rename_i x r9 hc
      split at h
      · rename_i t ht
        cases h
        have e1 := congrArg (fun z => z[(x.toInt - lo).toNat]?) ho
        simp only [List.getElem?_map, ht, Option.map_some, Array.getElem?_toList] at e1
        cases e2 : offs[(x.toInt - lo).toNat]? with
        | none => rw [e2] at e1; cases e1
        | some o =>
          rw [e2] at e1
          exact lv_tableIn X.1 X.2.1 hd (fun z => hc (Or.inl z)) (fun z => hc (Or.inr z)) e2 (Option.some.inj e1) (k H locs ls' cells slots hR hS hl h1 h2 h3 h4)
      · cases h
  · cases h
end AbAct

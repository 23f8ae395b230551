section PLAN
variable {h h' : sm_H} {s : Nat} {cl : List Nat}
theorem jx_job_fr {lo hi : Nat} (x : Fr lo hi h h') (hd : hi ≤ s + 52) (j : Nat) : gI h' (s + 52 + 11 * j) = gI h (s + 52 + 11 * j) := (x.2.2.2.2 _ (by omega)).1
theorem jx_md_fr {lo hi : Nat} (x : Fr lo hi h h') (hd : hi ≤ s + 52) : jx_md h' s = jx_md h s := by funext j; rw [jx_md, jx_md, jx_job_fr x hd]
theorem jx_sh_fr {lo hi : Nat} (x : Fr lo hi h h') (hd : hi ≤ s + 52) : jx_sh h' s = jx_sh h s := by funext j k; rw [jx_sh, jx_sh, jx_md_fr x hd, jx_job_fr x hd, jx_job_fr x hd]
theorem jx_wt_fr {lo hi : Nat} (x : Fr lo hi h h') (hd : hi ≤ s + 52) : jx_wt h' s = jx_wt h s := by funext c j k; rw [jx_wt, jx_wt, jx_md_fr x hd, jx_job_fr x hd, jx_job_fr x hd]
theorem jx_nc_fr {lo hi : Nat} (x : Fr lo hi h h') (hd : hi ≤ s + 52) : jx_nc h' s = jx_nc h s := by funext c j; rw [jx_nc, jx_nc, jx_md_fr x hd, jx_wt_fr x hd]
theorem isJs_fr {lo hi : Nat} (x : Fr lo hi h h') (hd : hi ≤ s + 52) (hj : isJs h s) : isJs h' s := fun j h8 => isJ_fr x (by omega) (hj j h8)
/-- THE CHAIN, and whether it can be run -/
def jx_plan (h : sm_H) (s : Nat) : Nat → List Nat → Bool × List Nat
  | 0, cl => (true, cl)
  | k + 1, cl => match (List.range' 0 8).find? (jx_nc h s cl) with
    | none => (false, cl)
    | some j => if (List.range' 0 8).any (jx_sh h s j) then (false, cl) else jx_plan h s k (cl ++ [j])
theorem jx_plan_fr {lo hi : Nat} (x : Fr lo hi h h') (hd : hi ≤ s + 52) : jx_plan h' s = jx_plan h s := by
  funext k
  induction k with
  | zero => rfl
  | succ k ih =>
    funext cl
    rw [jx_plan, jx_plan, jx_nc_fr x hd, jx_sh_fr x hd, ih]
end PLAN

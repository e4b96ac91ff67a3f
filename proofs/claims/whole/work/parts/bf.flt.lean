/-! what the means and the trusts need of it -/
theorem nf_all : NF := ⟨fun a _ h => div_nn a h, fun a _ h => div_nni a h, fun a _ h => div_nnf a h⟩
theorem av_nf (Y : Yd) : FP.Core.fIsNaN (avT Y) = false := by
  unfold avT
  split
  · decide
  · rename_i hb
    exact FP.Core.fdiv_out (FP.Core.i2f_fin _).notNaN (FP.Core.i2f_fin _) fun z => FP.Core.i2f_ne_zero hb ((FP.Core.zero_bits232 _).mp z)
theorem av_nn (Y : Yd) : vf_n64 (FP.f2d (avT Y)) := by
  unfold FP.f2d
  rw [if_neg (by rw [av_nf]; decide)]
  exact nn64 (FP.Core.f2d_out (av_nf Y))

default(realprecision, 420);
default(parisizemax, 1000000000); \\ enough for degree 12
tv(F) = Vecrev(F);
prim(F) = { my(G); G = F/content(F); if (pollead(G) < 0, G = -G); G };
rr(F) = if (poldegree(F)==1, [-polcoef(F,0)/polcoef(F,1)], polrootsreal(F));
num(F,i) = rr(F)[i+1];
tol = 1.0*10^-330;
dist(F,t) = { my(v,w); if (poldegree(F)==1, return(abs(t+polcoef(F,0)/polcoef(F,1)))); v = abs(subst(F,x,t)); w = abs(subst(deriv(F),x,t)); if (v < 10^-350, return(v)); if (w < 10^-350 || w < v*10^-200, return(10^9)); v/w };
pick(R,t) = {
  my(fa,b,d,e,best,rts,pl);
  if (abs(t) < 10^-300 && polcoef(R,0)==0, return([[0,1],0]));
  fa = factor(R)[,1]; best = 0; b = 0;
  for (i=1, #fa, e = dist(prim(fa[i]), t); if (best==0 || e < d, d = e; best = prim(fa[i])));
  rts = rr(best); pl = 0; d = oo;
  for (i=1, #rts, if (abs(rts[i]-t) < d, d = abs(rts[i]-t); pl = i-1));
  [Vecrev(best), pl]
};
addn(p,i,q,j,k) = { my(R); if (k==-1 && p==q && i==j, return([[0,1],0])); R = polresultant(subst(p,x,y), numerator(subst(q,x,(x-y)/k)*k^poldegree(q)), y); pick(R, num(p,i)+k*num(q,j)) };
mul(p,i,q,j) = { my(R,n); n = poldegree(q); R = polresultant(subst(p,x,y), sum(h=0,n,polcoef(q,h)*x^h*y^(n-h)), y); if (poldegree(R) < 1, R = x); pick(R, num(p,i)*num(q,j)) };
inv(p,i) = pick(polrecip(p), 1/num(p,i));
val(f,p,i) = { my(a,c); c = charpoly(Mod(f, p)); pick(prim(c), if(f==0,0.,subst(f*1.0,x,num(p,i)))) };
rootk(p,i,k) = { my(t,s); t = num(p,i); s = if (t<0, -((-t)^(1/k)), if (t==0, 0, t^(1/k))); pick(subst(p,x,x^k), s) };
apart(p,q,k) = { my(R); R = polresultant(subst(p,x,y), subst(q,x,(x-y)/k)*k^poldegree(q), y); issquarefree(R) };
comk(p,q) = { my(k=1); while (!apart(p,q,k), k++); k };
nreal(F) = #rr(F);
trn(n,d,s) = { my(t,F,a); a = if (s, 1/4 - n/d, n/d); a = a - floor(a); my(D=denominator(a)); t = cos(2*Pi*a); if (D==1, return([[-1,1],0])); if (D==2, return([[1,1],0])); F = prim(subst(minpoly(Mod(x+1/x, polcyclo(D))), x, 2*x)); pick(F, t) };
mixed(f) = { my(g); g = f/gcd(f,deriv(f)); rr2(g) };
allr(f) = { my(fa, L); if (poldegree(f) < 1, return([])); fa = factor(f)[,1]; L = List(); for (i=1,#fa, my(F=prim(fa[i]), r=rr(F)); for (j=1,#r, listput(L, [r[j]*1.0, Vecrev(F), j-1]))); vecsort(Vec(L), 1) };
rtof(f,i) = { my(L=allr(f)); if (i < 0 || i >= #L, return([])); [L[i+1][2], L[i+1][3]] };
nroots(f) = #allr(f);
cntle(f,p,i) = { my(L,t,c); L = allr(f); t = num(p,i); c = 0; for (j=1,#L, if ((L[j][1] < t - tol) || ((L[j][2]==Vecrev(p)) && (L[j][3] <= i)), c = c+1)); c };
btw(f,p,i,q,j) = max(0, cntle(f,q,j) - cntle(f,p,i));
prt(f) = { my(fa); if (poldegree(f) < 1, return([])); fa = factor(f); vector(#fa[,1], i, [Vecrev(prim(fa[i,1])), fa[i,2]]) };
cmpn(p,i,q,j) = { if (p==q, return(sign(i-j))); my(a=num(p,i), b=num(q,j)); sign(a-b) };
flr(p,i,d) = { my(a=num(p,i)); floor(a*10^d) };
sgn(p,i) = sign(num(p,i));
wi(p,i,q,j) = { my(k,L); k = comk(p,q); L = addn(p,i,q,j,k); if (#L[1]-1 == poldegree(q), 1, 0) };
\\ short polynomials of degree n at most that have each of as twice as a root by its prime
hard(n,ps,as) = { my(M,a,B); M = vecprod(ps); a = lift(chinese(vector(#ps,i,Mod(as[i],ps[i])))); B = matrix(n+1,n+1); B[1,1] = M; B[2,2] = M; for (i=1,n-1, B[i+2,i+2] = 1; B[i+1,i+2] = (-2*a)%M; B[i,i+2] = (a*a)%M); B = B*qflll(B); vector(#B,i,Vec(B[,i])) };

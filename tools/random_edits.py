import sys; sys.path.insert(0,__import__('os').path.dirname(__import__('os').path.abspath(__file__)))
import random_texts,ref,subprocess,random,copy
from random_texts import CLASSES,R,Scn,pick,ch,toks,trial,Gen,ALLC
SETS=[
["""open class a.A with a.N { kin int y = 3; own int z = 4; open static int s = 7; open static final int kk = 5; open new() { } open new(int v) { y = v; } kin int h() { return y; } own int o() { return z; } open a.A me() { return this; } open z.Any give() { return this; } open static int st(int p) { return p * s; } open int f(int p) { return p + kk; } open int f(a.A p) { return p.y; } int g() { return 1; } open static a.A mk() { return new a.A(); } } open class a.N in a.A { open static int see(a.A v) { return v.z + v.o(); } } open class a.B is a.A as a.F { open new() { super(2); } open a.B me() { return this; } open a.B give() { return this; } open int m(int p) { return p + f(1); } int g() { return 2; } } open face a.F { int m(int p); int n() { return m(1) + 1; } int cc = 9; int dd = a.A.st(2); static int sf() { return 2; } own int oo() { return 3; } int callo() { return oo(); } } open face a.G as a.F { int n() { return 20 + a.F.super.n(); } a.F self(); } open class a.Err is z.Ill { open int w = 3; open new(int p) { code = p; } }""",
"""class c.M { static int m0() { let a.A v = new a.B(); out v.f(3); out v.me() == v; let a.F q = new a.B(); out q.n(); out q.m(4); out a.A.kk + a.F.cc; out a.F.dd; out a.A.st(4); a.A.s = 9; out a.A.s; out v.give() == v; out q ask a.A; out ((a.A) q).f(v); return 5; } static void m1() { try { throw new a.Err(4); } catch (a.Err e) { out e.code + e.w; } out a.N.see(new a.A(5)); out new a.B().callo(); } static z.Any m2() { let c.X v = new c.X(); out v.n(); out v.self() == v; out v.hh(); out v.m(3); v.t = 8; out v.t; v.er(); return v; } static void m3() { let a.F q = new c.X(); out q.n(); out a.F.sf(); out new c.X() ask a.G; let a.A w = (c.X) q; out w.f(2); } static int kk = 4; static void m4() { out (a.B) new a.A() == null; } static a.A m5() { return new c.X().me(); } } open class c.X is a.B as a.G { int t = a.A.kk + 1; final int u; int n2; open new() { super(); u = 4; n2 = t; } int hh() { return h() + y + super.f(t) + u; } open int n() { return a.G.super.n() + 1; } open a.F self() { return this; } void er() { if (t < 3) throw new a.Err(t); else { let int i = 0; while (i < 3) { i = i + 1; n2 = n2 + i; } out n2; } try { bad(null); } catch (z.Ill e) { out e.code; } } void bad(a.A p) { out p == null; throw new z.Ill(); } open c.X me() { return this; } start { out 77; c.M.kk = 5; } static int q = c.M.kk; }""",
"""class e.Z is c.X { open int n() { return super.n() * 2; } static void go() { let c.X v = new e.Z(); out v.n(); out v.f(v); let a.F g = v; out g.n(); out v.self() ask e.Z; throw (z.Ill) e(); } static z.Any e() { return new a.Err(3); } static void deep(int p) { out p; deep(p + 1); } static void dd() { deep(0); } static void lp() { while (1) { let int i = 0; i = i + 1; } } static void many() { while (1) new a.B(); } } class e.W { start { throw new a.Err(9); } static int s = 3; static void g() { s = 4; } } class e.V { static void g() { try { out e.W.s; } catch (z.Ill x) { out 3; } } }"""],
["""open bare class b.P { open bare b.P f(); kin bare int g(int p, b.P q); int h() { return 1; } kin int k() { return h(); } kin static int ks = 3; open final int nn() { return 4; } open static b.P one() { return null; } } open class b.Q is b.P only b.R, b.S { open b.P f() { return this; } open int g(int p, b.P q) { return p; } int h() { return 2; } } open class b.R is b.Q { open b.R f() { return this; } open z.Any any() { return null; } int h() { return 3; } } open final class b.S is b.Q { kin int a1 = 1; } open face b.F { b.P f(); z.Any any() { return this; } } open face b.H { z.Any any() { return null; } int z1 = 2 + 3 * 4; b.P zz = b.P.one(); } open face b.K as b.F, b.H { z.Any any() { return b.F.super.any(); } } bare class b.T as b.F { } open class b.U is b.T as b.H { open b.R f() { return null; } open z.Any any() { return b.H.super.any(); } static int pp = 3; start { pp = 4; } open static int get() { return pp; } }""",
"""open class d.D is b.R as b.K { open d.D f() { return this; } open z.Any any() { return b.K.super.any(); } int h() { return 9; } kin int k() { return super.k() + ks; } open int all() { return h() + k() + nn() + g(3, this); } static void t0() { let d.D x = new d.D(); out x.all(); out x.f() == x; let b.P y = x; out y.f() == x; out y.nn(); let b.F z = x; out z.f() == x; out z.any() == x; let b.K w = x; out w.any() == null; out b.H.z1; out b.H.zz == null; out b.U.get(); out new b.U().f() == null; } static b.P t1() { let b.F q = new b.U(); out q.any() == q; return q.f(); } static void t2() { let d.Y y = new d.Y(); out y.any() == y; out y.f() == null; d.Y.cnt = d.Y.cnt + 1; out d.Y.cnt; let b.F f = y; out f.f() == null; out (b.K) f == y; } } class d.Y as b.K { static int cnt; open b.P f() { return null; } new() { cnt = cnt + 1; } }""",
"""class b.Z is d.D { int h() { return 11; } static void t3() { out new b.Z().all(); out new b.Z().h(); let b.P p = new b.Z(); out p.h(); out p.k(); let b.Q q = new b.Z(); out q.h(); out q.g(1, null); out q ask d.D; } static int t4() { return new b.S().a1 + b.P.ks; } }"""],
["""open class a.P { open static int lg = a.Q.v + 1; open static final int kk = 2; start { out 1; lg = lg + kk; } } open class a.Q is a.R as a.I { open static int v = a.P.lg + 10; start { out 2; } } open class a.R { start { out 3; } open static int r = 5; } open face a.I as a.J { int iv = a.L.log(4); int dm() { return iv; } } open face a.J { int jv = a.L.log(5); int dn() { return jv + 1; } static int js() { return jv; } } open face a.O { int ov = a.L.log(6); int bm(); } open class a.L { open static int log(int p) { out p; return p * 10; } } open class a.W { start { out 8; throw new z.Ill(); } open static int q; open static final int ck = 6; } open class a.X is a.W { } open class a.Y { open static int u = a.W.q; open int fld = a.W.ck; open static a.Y it = new a.Y(); }""",
"""class c.M { static void m0() { out a.P.lg; out a.Q.v; } static void m1() { out a.W.ck; out a.W.q; } static void m2() { new a.X(); } static void m3() { out a.Y.u; } static void m4() { out new a.Q().dm(); out a.J.js(); } static void m5() { let a.O o = new c.N(); out o.bm(); out a.O.ov; } static int m6() { try { return new c.N().th(0); } catch (c.E e) { out e.code + e.k2; return e.code; } } static void m7() { let c.E e = new c.E(); e.code = 5; throw e; } static int fib(int n) { if (n < 2) return n; return fib(n - 1) + fib(n - 2); } static int m8() { return fib(8); } static z.Any nul() { return null; } static void m9() { let c.N n = (c.N) nul(); out n == null; out n ask c.N; out n.x; } static void ma() { let c.N n = null; n.x = 4; } static void mb() { let a.O o = null; o.bm(); } } class c.N as a.O { open int bm() { return 3 + x; } int x = a.R.r + 1; int th(int p) { if (p == 3) { throw new c.E(); } try { th(p + 1); } catch (z.Ill i) { out p; i.code = i.code + p + 1; throw i; } return p; } } class c.E is z.Ill { int k2 = 6; }""",
"""class d.A { static void t() { out c2(1, 2) + c2(3, null) + c2(null, null); } static int c2(int p, int q) { return 1; } static int c2(int p, a.O q) { return 20; } static int c2(a.R p, a.Q q) { return 300; } static int c2(a.Q p, a.Q q) { return 4000; } static void o2() { let int n = 0; while (n < 130) { out n * n - n; n = n + 1; } } static void big() { let int n = 0; while (n < 250) { new d.B(); n = n + 1; } } static void obj() { let int n = 0; while (n < 250) { new a.L(); n = n + 1; } } } class d.B { int a1; int a2; int a3; int a4; int a5; int a6; int a7; int a8; int a9; int b1; int b2; int b3; d.B b4; }"""],
]
WORDS=['open','kin','own','static','final','bare','int','void','null','this','super','is','as','only','ask']
def edit(t,known):
    ts=toks(t)
    r=R.randrange(12); n=len(ts)
    if n<3: return t
    if r<3:
        # replace a token by one of the same kind
        i=R.randrange(n); k=ref.lex(ts[i])[0][0]
        same=[x for x in ts if ref.lex(x)[0][0]==k]
        if k=='C': same+=known
        if k in('open','kin','own','static','final','bare'): same=['open','kin','own','static','final','bare']
        if k in('int','void'): same=['int','void','a.A','z.Any']
        if k=='NUM': same=['0','1','2','3','99']
        ts[i]=pick(same)
    elif r<5:
        # add or drop a modifier
        i=R.randrange(n)
        if ts[i] in('open','kin','own','static','final','bare'): ts.pop(i)
        else:
            js=[j for j in range(n) if ts[j] in(';','{','}') ]
            if js: ts.insert(pick(js)+1,pick(['open','kin','own','static','final','bare']))
    elif r<7:
        # a type changes
        js=[j for j in range(n-1) if ref.lex(ts[j])[0][0] in('C','int') and ref.lex(ts[j+1])[0][0]=='NAME']
        if js: ts[pick(js)]=pick(known+['int','z.Any'])
    elif r<9:
        # drop a statement or member
        js=[j for j in range(n) if ts[j]==';']
        if js:
            j=pick(js); i=j-1
            while i>0 and ts[i] not in(';','{','}'): i-=1
            del ts[i+1:j+1]
    elif r==9:
        js=[j for j in range(n) if ts[j] in('is','as','only','with','in')]
        if js:
            j=pick(js)
            if ch(.5): ts[j+1]=pick(known)
            else:
                e=j+2
                while e<n and ts[e]==',': e+=2
                del ts[j:e]
    elif r==10:
        g=Gen(0,known); js=[j for j in range(n) if ts[j] in(';','}')]
        ts[pick(js)+1:0]=[] 
        j=pick(js); ts[j+1:j+1]=toks(pick([g.S(),g.member(False),g.member(True)]))
    else:
        return random_texts.mutate_tokens(t)
    return ' '.join(ts)
def variant(s,lib,t,k,tries=40):
    done=0
    kn=[x for x in toks(t) if len(x)>2 and x[1]=='.']+s.known()
    for _ in range(tries):
        if done>=k: break
        u=edit(t,kn)
        if u==t or len(u)>3900 or len(toks(u))>720: continue
        f=trial(s.h,lib,u)
        if f is None: t=u; done+=1
        elif ch(.1): s.mk(lib,u)
    return t
def scenario(seed):
    R.seed(seed); s=Scn(); S=pick(SETS); cur=list(S); n=len(S)
    for l in range(n):
        t=cur[l] if ch(.7) else variant(s,l,cur[l],R.choice([1,2,5]))
        if s.mk(l,t)<0: t=cur[l]; s.mk(l,t)
        cur[l]=t
        if s.h.b[l]: s.do('pick',l,len(s.h.b[l])-1)
    s.runs(); s.check()
    for rnd in range(R.choice([2,4,6])):
        l=R.choice([0,0,0,1,1,2])
        if sum(map(len,s.h.b))<16 and len(s.h.b[l])<8:
            t=variant(s,l,cur[l],R.choice([1,2,3,6]))
            if s.mk(l,t)>=0 and ch(.5): cur[l]=t
        n=len(s.h.b[l])
        if not n: continue
        a,b=R.randrange(n),n-1
        s.do('differ',l,a,b)
        for i in range(len(s.h.diff)+1):
            for w in range(5): s.do('change',i,w)
        s.do('word',l,a,b); s.do('word',l,b,a)
        if ch(.6):
            r=s.do('weave',l,a,b) if ch(.7) else s.do('weave',l,b,a)
            if r>=0: s.inspect(l,r)
        old=list(s.h.pk)
        if ch(.85): s.do('pick',l,len(s.h.b[l])-1)
        if ch(.1): s.do('pick',l,-2)
        if ch(.25): 
            q=R.randrange(3)
            if s.h.b[q]: s.do('pick',q,R.randrange(len(s.h.b[q])))
        if ch(.5): s.check()
        s.runs(); 
        if ch(.5): s.do('fresh'); s.check(); s.runs()
        if ch(.35):
            s.do('choose')
            for q in range(5): s.do('picked',q)
    return s
if __name__=='__main__':
    random_texts.scenario=scenario
    src=open(random_texts.__file__).read().split("if __name__=='__main__':\n")[1]
    exec(compile('if 1:\n'+src,'main','exec'))
